/-! delivery; what is asked of meetings -/
def becB (S : MS) (k : Int) : Bool := decide (ma S 25 (8 * ma S 33 k + ma S 34 k) = -1) || decide (ma S 9 (ma S 25 (8 * ma S 33 k + ma S 34 k)) < ma S 36 k)
def sBec1 (S : MS) (k : Int) : MS := seta S 25 (8 * ma S 33 k + ma S 34 k) (ma S 35 k)
def sBec (S : MS) (k : Int) : MS := if becB S k = true then sMarks (sBec1 S k) (ma S 33 k) (ma S 34 k) else S
theorem wr_bec1 {t k : Int} {S : MS} (h : WR t S) (h0 : 0 ≤ k) (h1 : k < mf S 29) : WR t (sBec1 S k) := by
  have hn := h.nn
  have hk := h.ms h0 h1
  unfold sBec1
  refine ⟨h.nn, fun z g0 g1 => ?_, fun j g0 g1 => ?_, fun v g0 g1 => ?_, fun v g0 g1 d g2 g3 => ?_, fun q j g0 g1 g2 g3 => ?_, fun q g0 g1 => ?_, fun k g0 g1 => ?_⟩
  · have := h.zn g0 g1; simp [ma_setf, ml_setf, mf_setf, ma_seta, ml_seta, mf_seta, ma_setl, ml_setl, mf_setl]; omega
  · have := h.mt g0 g1; simp [ma_setf, ml_setf, mf_setf, ma_seta, ml_seta, mf_seta, ma_setl, ml_setl, mf_setl]; omega
  · have := h.vs g0 g1; simp [ma_setf, ml_setf, mf_setf, ma_seta, ml_seta, mf_seta, ma_setl, ml_setl, mf_setl]; exact this
  · have := h.dl g0 g1 g2 g3; simp [ma_setf, ml_setf, mf_setf, ma_seta, ml_seta, mf_seta, ma_setl, ml_setl, mf_setl]; exact this
  · have := h.cp g0 g1 g2 g3; simp [ma_setf, ml_setf, mf_setf, ma_seta, ml_seta, mf_seta, ma_setl, ml_setl, mf_setl]; split <;> omega
  · have := h.ps g0 g1; simp [ma_setf, ml_setf, mf_setf, ma_seta, ml_seta, mf_seta, ma_setl, ml_setl, mf_setl]; omega
  · have := h.ms g0 g1; simp [ma_setf, ml_setf, mf_setf, ma_seta, ml_seta, mf_seta, ma_setl, ml_setl, mf_setl]; exact this
theorem e_becomes {t k : Int} {S : MS} (h : WR t S) (ht : t + 1 ≤ 600) (h0 : 0 ≤ k) (h1 : k < mf S 29) : P_X7_becomes (I k) S = some (b2i (becB S k), sBec S k) := by
  have hn := h.nn
  have hk := h.ms h0 h1
  have hc := h.cp (p := ma S 33 k) (i := ma S 34 k) (by omega) (by omega) (by omega) (by omega)
  have hw := wr_bec1 h h0 h1
  unfold P_X7_becomes sBec
  rw [gr33 h0 (by omega), gr34 h0 (by omega), e_at, pb_pp, gr25 (by omega) (by omega), glm1, d_eq (by omega) (by omega) (by omega) (by omega)]
  rw [pb_ok (if_or1 (b := decide (ma S 9 (ma S 25 (8 * ma S 33 k + ma S 34 k)) < ma S 36 k)) (fun q => by
    have q := of_decide_eq_false q
    have hv := h.vs (v := ma S 25 (8 * ma S 33 k + ma S 34 k)) (by omega) (by omega)
    rw [gr25 (by omega) (by omega), gr9 (by omega) (by omega), gr36 (by omega) (by omega), pp_ap, d_lt (by omega) (by omega) (by omega) (by omega)]))]
  rw [show (decide (ma S 25 (8 * ma S 33 k + ma S 34 k) = -1) || decide (ma S 9 (ma S 25 (8 * ma S 33 k + ma S 34 k)) < ma S 36 k)) = becB S k from rfl]
  by_cases g : becB S k = true
  · rw [if_pos g, if_pos g, pb_assoc, gr35 h0 (by omega), pb_assoc, gw25 (by omega) (by omega) (by omega) (by omega), pb_assoc, gr33 h0 (by omega), pb_assoc, gr34 h0 (by omega), pb_assoc]
    exact Eq.trans (pb_ok (e_marks (S := sBec1 S k) (p := ma S 33 k) (i := ma S 34 k) hw ht (by omega) (by omega) (by omega) (by have : mf (sBec1 S k) 3 = mf S 3 := rfl; omega))) rfl
  · rw [if_neg g, if_neg g, pb_pp, pp_ap]
/-- a delivery of a reply or a proposal: whether it does something -/
def dlvB (S : MS) (k : Int) : Bool := !decide (¬ ma S 42 k = 0) && (decide (ma S 31 k = 2) || decide (kept (seta S 42 k 1) (ma S 34 k) (ma S 32 k) (ma S 37 k) = k))
def sDlv (S : MS) (k : Int) : MS := if (dlvB S k && decide (ma S 31 k = 1)) = true then sMarks (seta S 42 k 1) (ma S 33 k) (ma S 34 k) else seta S 42 k 1
def ansDlv (S : MS) (k : Int) : Bool := if ma S 31 k = 0 then becB S k else dlvB S k
def stDlv (S : MS) (k : Int) : MS := if ma S 31 k = 0 then sBec S k else sDlv S k
theorem e_deliver {t k : Int} {S : MS} (h : WR t S) (ht : t + 1 ≤ 600) (h0 : -2147483648 ≤ k) (h1 : k < 2147483648) :
    P_X7_deliver (I k) S = if gK S k = true then some (b2i (ansDlv S k), stDlv (setf S 45 0) k) else some (I 0, setf S 45 1) := by
  unfold P_X7_deliver
  rw [pb_ok (mb2 h h0 h1), pb_ok (e_goes1L _ _), nb]
  by_cases g : gK S k = true
  · rw [if_pos g, g, if_neg (by decide)]
    have g1 : 0 ≤ k ∧ k < mf S 29 := of_decide_eq_true g
    have eg : gc true true true = 0 := rfl
    rw [eg]
    have e0 : becB S k = becB (setf S 45 0) k := rfl
    have e1 : dlvB S k = dlvB (setf S 45 0) k := by
      unfold dlvB
      rw [kept_ma (S := seta S 42 k 1) (S' := seta (setf S 45 0) 42 k 1) rfl rfl]
      rfl
    unfold ansDlv stDlv
    rw [e0, e1]
    have hW := wr_thr 0 h
    have k29 : mf (setf S 45 0) 29 = mf S 29 := rfl
    have q31 : ma (setf S 45 0) 31 k = ma S 31 k := rfl
    rw [← q31]
    generalize setf S 45 0 = S0 at hW k29 ⊢
    have hn := hW.nn
    have hk := hW.ms (k := k) g1.1 (by omega)
    rw [gr42 g1.1 (by omega), gr31 g1.1 (by omega), gl0, d_eq (by omega) (by omega) (by omega) (by omega)]
    by_cases c : ma S0 31 k = 0
    · rw [if_pos (decide_eq_true c), if_pos c, if_pos c, pb_ok (e_becomes hW ht g1.1 (by omega)), pz_b2i, pp_ap]
    · rw [if_neg (by rw [decide_eq_false c]; decide), if_neg c, if_neg c, gl1, gw42 g1.1 (by omega) (by omega), d_ne (by omega) (by omega) (by omega) (by omega)]
      have hw := wr_set42 (k := k) hW
      have m31 : ma (seta S0 42 k 1) 31 k = ma S0 31 k := rfl
      have m32 : ma (seta S0 42 k 1) 32 k = ma S0 32 k := rfl
      have m33 : ma (seta S0 42 k 1) 33 k = ma S0 33 k := rfl
      have m34 : ma (seta S0 42 k 1) 34 k = ma S0 34 k := rfl
      have m37 : ma (seta S0 42 k 1) 37 k = ma S0 37 k := rfl
      rw [pb_ok (if_and1 (b := (decide (ma S0 31 k = 2) || decide (kept (seta S0 42 k 1) (ma S0 34 k) (ma S0 32 k) (ma S0 37 k) = k))) (fun _ => by
        rw [gr31 g1.1 (by omega), m31, gl2, d_eq (by omega) (by omega) (by omega) (by omega)]
        have hkr := kept_r (i := ma S0 34 k) (p := ma S0 32 k) (d := ma S0 37 k) hw
        have hk29 : mf (seta S0 42 k 1) 29 = mf S0 29 := rfl
        exact if_or1 (fun _ => by rw [gr34 g1.1 (by omega), gr32 g1.1 (by omega), gr37 g1.1 (by omega), m34, m32, m37, pb_ok (e_kept hw (by omega) (by omega) (by omega) (by omega) (by omega) (by omega)), pp_ap, d_eq (by omega) (by omega) (by omega) (by omega)]))) ]
      rw [show (!decide (¬ ma S0 42 k = 0) && (decide (ma S0 31 k = 2) || decide (kept (seta S0 42 k 1) (ma S0 34 k) (ma S0 32 k) (ma S0 37 k) = k))) = dlvB S0 k from rfl]
      rw [pb_ok (if_and1 (b := decide (ma S0 31 k = 1)) (fun _ => by rw [gr31 g1.1 (by omega), m31, pp_ap, d_eq (by omega) (by omega) (by omega) (by omega)]))]
      unfold sDlv
      by_cases e : (dlvB S0 k && decide (ma S0 31 k = 1)) = true
      · rw [if_pos e, if_pos e, pb_assoc, gr33 g1.1 (by omega), pb_assoc, gr34 g1.1 (by omega), m33, m34, pb_assoc, pb_ok (e_marks hw ht (by omega) (by omega) (by omega) (show ma S0 34 k < mf S0 3 by omega)), pb_pp, pp_ap]
      · rw [if_neg e, if_neg e, pb_pp, pp_ap]
  · have g' := Bool.eq_false_iff.mpr g
    rw [if_neg g, g', if_pos (by decide)]
    rfl
theorem e_messages {S : MS} : P_X7_messages S = some (I (mf S 29), setf S 45 0) := rfl
theorem e_meetings {S : MS} : P_X7_meetings S = some (I (mf S 3), setf S 45 0) := rfl
theorem e_kindOf {t k : Int} {S : MS} (h : WR t S) (h0 : -2147483648 ≤ k) (h1 : k < 2147483648) : P_X7_kindOf (I k) S = if gK S k = true then some (I (ma S 31 k), setf S 45 0) else some (I 0, setf S 45 1) := by
  have hn := h.nn
  unfold P_X7_kindOf
  rw [pb_ok (mb2 h h0 h1), pb_ok (e_goes1L _ _), nb]
  by_cases g : gK S k = true
  · have g1 : 0 ≤ k ∧ k < mf S 29 := of_decide_eq_true g
    rw [if_pos g, g, if_pos (by decide), ga31 g1.1 (by omega)]; rfl
  · rw [if_neg g, Bool.eq_false_iff.mpr g, if_neg (by decide)]; rfl
theorem e_receiver {t k : Int} {S : MS} (h : WR t S) (h0 : -2147483648 ≤ k) (h1 : k < 2147483648) : P_X7_receiver (I k) S = if gK S k = true then some (I (ma S 33 k), setf S 45 0) else some (I 0, setf S 45 1) := by
  have hn := h.nn
  unfold P_X7_receiver
  rw [pb_ok (mb2 h h0 h1), pb_ok (e_goes1L _ _), nb]
  by_cases g : gK S k = true
  · have g1 : 0 ≤ k ∧ k < mf S 29 := of_decide_eq_true g
    rw [if_pos g, g, if_pos (by decide), ga33 g1.1 (by omega)]; rfl
  · rw [if_neg g, Bool.eq_false_iff.mpr g, if_neg (by decide)]; rfl
def gPM (S : MS) (p i : Int) : Bool := decide ((0 ≤ p ∧ p ≤ 4) ∧ 0 ≤ i ∧ i < mf S 3)
theorem gPM_d {S : MS} {p i : Int} (h : gPM S p i = true) : (0 ≤ p ∧ p < 5) ∧ 0 ≤ i ∧ i < mf S 3 := by
  have := of_decide_eq_true h; omega
theorem e_asks' {t p i : Int} {S : MS} (h : WR t S) (h0 : -2147483648 ≤ p) (h1 : p < 2147483648) (h2 : -2147483648 ≤ i) (h3 : i < 2147483648) : P_X7_asks (I p) (I i) S = some (b2i (gPM S p i), setf S 45 (gc (gPM S p i) true true)) := e_asks h h0 h1 h2 h3
theorem e_isThere {t p i : Int} {S : MS} (h : WR t S) (h0 : -2147483648 ≤ p) (h1 : p < 2147483648) (h2 : -2147483648 ≤ i) (h3 : i < 2147483648) : P_X7_isThere (I p) (I i) S = if gPM S p i = true then some (b2i (isHere S p i), setf S 45 0) else some (b2i false, setf S 45 1) := by
  unfold P_X7_isThere
  rw [pb_ok (e_asks' h h0 h1 h2 h3), nb]
  by_cases g : gPM S p i = true
  · have q := gPM_d g
    rw [if_pos g, if_pos g, g, pb_ok (hereX (wr_thr _ h) q.1.1 q.1.2 q.2.1 q.2.2), pp_ap]; rfl
  · rw [if_neg g, if_neg g, Bool.eq_false_iff.mpr g]; rfl
def seqOf (S : MS) (p i : Int) : Int := if verOf S p i = -1 then -1 else ma S 9 (verOf S p i)
theorem verOf_r {t p i : Int} {S : MS} (h : WR t S) (hp : 0 ≤ p) (hp' : p < 5) (hi : 0 ≤ i) (hi' : i < mf S 3) : -1 ≤ verOf S p i ∧ verOf S p i < mf S 7 := by
  have hn := h.nn
  have hm := h.mt hi hi'
  have hc := h.cp hp hp' hi (by omega)
  unfold verOf
  split <;> omega
theorem e_sequence {t p i : Int} {S : MS} (h : WR t S) (h0 : -2147483648 ≤ p) (h1 : p < 2147483648) (h2 : -2147483648 ≤ i) (h3 : i < 2147483648) : P_X7_sequence (I p) (I i) S = if gPM S p i = true then some (I (seqOf S p i), setf S 45 0) else some (I 0, setf S 45 1) := by
  have hn := h.nn
  unfold P_X7_sequence
  rw [pb_ok (e_asks' h h0 h1 h2 h3), nb]
  by_cases g : gPM S p i = true
  · have q := gPM_d g
    have hv := verOf_r h q.1.1 q.1.2 q.2.1 q.2.2
    rw [if_pos g, g, if_neg (by decide), pb_ok (e_versionOf (wr_thr _ h) q.1.1 q.1.2 q.2.1 q.2.2)]
    show (if decide (I (verOf S p i) = -1) = true then pp (-1) else pai 9 (I (verOf S p i))) (setf S 45 0) = _
    unfold seqOf
    rw [glm1, d_eq (by omega) (by omega) (by omega) (by omega)]
    by_cases c : verOf S p i = -1
    · rw [if_pos (decide_eq_true c), if_pos c]; rfl
    · rw [if_neg (by rw [decide_eq_false c]; decide), if_neg c, ga9 (by omega) (by omega)]; rfl
  · rw [if_neg g, Bool.eq_false_iff.mpr g, if_pos (by decide)]; rfl
/-- how many have a property; which is the one at a place -/
def cnt (c : Int → Bool) : Nat → Int
  | 0 => 0
  | j + 1 => cnt c j + (if c j = true then 1 else 0)
theorem cnt_r (c : Int → Bool) : ∀ j, 0 ≤ cnt c j ∧ cnt c j ≤ j := by
  intro j
  induction j with
  | zero => exact ⟨Int.le_refl _, Int.le_refl _⟩
  | succ j ih => unfold cnt; split <;> omega
def nth (c : Int → Bool) (place : Int) : Nat → Int
  | 0 => -1
  | j + 1 => if (c j && decide (cnt c j = place)) = true then (j : Int) else nth c place j
theorem nth_r (c : Int → Bool) (place : Int) : ∀ j, -1 ≤ nth c place j ∧ nth c place j < j := by
  intro j
  induction j with
  | zero => exact ⟨Int.le_refl _, (show (-1 : Int) < 0 by decide)⟩
  | succ j ih => unfold nth; split <;> omega
theorem nb0 {b : Bool} : (decide (¬ b2i b = I 0)) = b := by rw [← gl0]; exact b2ne b
theorem e_many {x : Int64} {S : MS} : P_X7_many x S = some (I (cnt (hl x) 60), S) := by
  unfold P_X7_many
  refine Eq.trans (pb_ok (pl_run (fun j => (I (cnt (hl x) j), I j)) (fun _ => S) 60 2000 (fun j hj => ?_) (fun j hj => ?_) ?_ (by omega))) ?_
  · rw [pp_ap, gl60, d_lt (by omega) (by omega) (by omega) (by omega), decide_eq_true (by omega)]
  · try simp only
    rw [e_has, pb_pp, nb]
    have e : cnt (hl x) (j + 1) = cnt (hl x) j + (if hl x j = true then 1 else 0) := rfl
    rw [e]
    by_cases g : hl x j = true
    · rw [if_pos g, if_pos g, pb_pp, pp_ap, gl1, I_add, I_add]; rfl
    · rw [if_neg g, if_neg g, pb_pp, pp_ap, gl0, gl1, I_add, I_add]; rfl
  · rw [pp_ap, gl60, d_lt (by omega) (by omega) (by omega) (by omega), decide_eq_false (by omega)]
  · rfl
theorem e_dates {t p i : Int} {S : MS} (h : WR t S) (h0 : -2147483648 ≤ p) (h1 : p < 2147483648) (h2 : -2147483648 ≤ i) (h3 : i < 2147483648) : P_X7_dates (I p) (I i) S = if gPM S p i = true then some (I (cnt (hl (datOf S p i)) 60), setf S 45 0) else some (I 0, setf S 45 1) := by
  have hn := h.nn
  unfold P_X7_dates
  rw [pb_ok (e_asks' h h0 h1 h2 h3), nb]
  by_cases g : gPM S p i = true
  · have q := gPM_d g
    rw [if_pos g, if_pos g, g, pb_ok (e_datesOf (wr_thr _ h) q.1.1 q.1.2 q.2.1 q.2.2), e_many]; rfl
  · rw [if_neg g, if_neg g, Bool.eq_false_iff.mpr g]; rfl
theorem e_dateAt {t p i place : Int} {S : MS} (h : WR t S) (h0 : -2147483648 ≤ p) (h1 : p < 2147483648) (h2 : -2147483648 ≤ i) (h3 : i < 2147483648) (h4 : -2147483648 ≤ place) (h5 : place < 2147483648) : P_X7_dateAt (I p) (I i) (I place) S = if (gPM S p i && decide (0 ≤ place ∧ place < cnt (hl (datOf S p i)) 60)) = true then some (I (nth (hl (datOf S p i)) place 60), setf S 45 0) else some (I 0, setf S 45 1) := by
  have hn := h.nn
  have hg : (decide (0 ≤ p ∧ p ≤ 4) && gM S i) = gPM S p i := by
    unfold gPM gM
    by_cases a : 0 ≤ p ∧ p ≤ 4 <;> simp [a]
  unfold P_X7_dateAt
  rw [e_isPerson h0 h1, pb_pp, nb, pb_ok (if_and1 (fun _ => mb h h2 h3)), hg]
  have e1 : (if gPM S p i = true then P_X7_datesOf (I p) (I i) else pp (0 : Int64)) S = some ((if gPM S p i = true then datOf S p i else 0), S) := by
    by_cases g : gPM S p i = true
    · have q := gPM_d g
      rw [if_pos g, if_pos g, e_datesOf h q.1.1 q.1.2 q.2.1 q.2.2]
    · rw [if_neg g, if_neg g]; rfl
  rw [pb_ok e1]
  have hc := cnt_r (hl (datOf S p i)) 60
  rw [pb_ok (if_and1 (b := decide (0 ≤ place ∧ place < cnt (hl (datOf S p i)) 60)) (fun g => by
    rw [if_pos g, pb_ok e_many, gl0, gl1, I_sub, e_in h4 h5 (by omega) (by omega) (by omega) (by omega), pb_pp, nb0, pp_ap]
    simp only [show (place ≤ cnt (hl (datOf S p i)) 60 - 1) = (place < cnt (hl (datOf S p i)) 60) from propext (by omega)]))]
  rw [pb_ok (e_goes1L _ _), nb]
  by_cases g : (gPM S p i && decide (0 ≤ place ∧ place < cnt (hl (datOf S p i)) 60)) = true
  · rw [if_pos g, g, if_neg (by decide)]
    have g' := g
    rw [Bool.and_eq_true] at g'
    have g2 : 0 ≤ place ∧ place < cnt (hl (datOf S p i)) 60 := of_decide_eq_true g'.2
    rw [if_pos g'.1]
    rw [show I place = I (place - cnt (hl (datOf S p i)) 0) from by show _ = I (place - 0); rw [Int.sub_zero]]
    refine Eq.trans (pb_ok (pl_run (fun j => (I (nth (hl (datOf S p i)) place j), I (place - cnt (hl (datOf S p i)) j), I j)) (fun _ => setf S 45 (gc true true true)) 60 2000 (fun j hj => ?_) (fun j hj => ?_) ?_ (by omega))) ?_
    · rw [pp_ap, gl60, d_lt (by omega) (by omega) (by omega) (by omega), decide_eq_true (by omega)]
    · have hcj := cnt_r (hl (datOf S p i)) j
      have hnj := nth_r (hl (datOf S p i)) place j
      have en : nth (hl (datOf S p i)) place (j + 1) = if (hl (datOf S p i) j && decide (cnt (hl (datOf S p i)) j = place)) = true then (j : Int) else nth (hl (datOf S p i)) place j := rfl
      have ec : cnt (hl (datOf S p i)) (j + 1) = cnt (hl (datOf S p i)) j + (if hl (datOf S p i) j = true then 1 else 0) := rfl
      rw [en, ec]
      try simp only
      rw [e_has, pb_pp, nb]
      by_cases a : hl (datOf S p i) j = true
      · rw [a, if_pos rfl, if_pos rfl, pb_assoc, gl0, d_eq (by omega) (by omega) (by omega) (by omega)]
        by_cases b : cnt (hl (datOf S p i)) j = place
        · rw [if_pos (decide_eq_true (by omega)), pb_pp, pb_pp, pp_ap, if_pos (by rw [decide_eq_true b]; rfl), glm1, gl1, I_add, I_add, show place - (cnt (hl (datOf S p i)) j + 1) = place - cnt (hl (datOf S p i)) j + -1 by omega]; rfl
        · rw [if_neg (by rw [decide_eq_false (by omega)]; decide), pb_pp, pb_pp, pp_ap, if_neg (by rw [decide_eq_false b]; decide), glm1, gl1, I_add, I_add, show place - (cnt (hl (datOf S p i)) j + 1) = place - cnt (hl (datOf S p i)) j + -1 by omega]; rfl
      · rw [Bool.eq_false_iff.mpr a]; simp only [Bool.false_and, Bool.false_eq_true, if_false]; rw [pb_pp, pp_ap, gl1, I_add, Int.add_zero]; rfl
    · rw [pp_ap, gl60, d_lt (by omega) (by omega) (by omega) (by omega), decide_eq_false (by omega)]
    · rfl
  · rw [if_neg g, Bool.eq_false_iff.mpr g, if_pos (by decide)]; rfl
