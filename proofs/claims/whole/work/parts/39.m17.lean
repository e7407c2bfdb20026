/-! proposals, ranks, marks -/
theorem e_proposals {t i : Int} {S : MS} (h : WR t S) (hq : MQS S) (h2 : -2147483648 ≤ i) (h3 : i < 2147483648) : P_X7_proposals (I i) S = if gM S i = true then some (I (opens S i), setf S 45 0) else some (I 0, setf S 45 1) := by
  unfold P_X7_proposals
  rw [pb_ok (e_isMeeting h h2 h3), show decide (0 ≤ i ∧ i < mf S 3) = gM S i from rfl, pb_ok (e_goes1L _ _), nb]
  by_cases g : gM S i = true
  · rw [if_pos g, g, if_pos (by decide)]
    have := e_opens (i := i) (wr_thr 0 h) (show MQS (setf S 45 0) from hq) h2 h3
    refine Eq.trans this ?_
    have : ∀ j, cntO (setf S 45 0) i j = cntO S i j := fun j => by
      induction j with
      | zero => rfl
      | succ j ih => unfold cntO; rw [ih]; rfl
    unfold opens
    rw [this]; rfl
  · rw [if_neg g, Bool.eq_false_iff.mpr g, if_neg (by decide)]; rfl
def opC (S : MS) (i : Int) (k : Int) : Bool := decide (ma S 34 k = i) && isOpenB S k
theorem opens_cnt (S : MS) (i : Int) : ∀ j, cntO S i j = cnt (opC S i) j := by
  intro j
  induction j with
  | zero => rfl
  | succ j ih => unfold cntO cnt; rw [ih]; rfl
theorem e_proposalAt {t i place : Int} {S : MS} (h : WR t S) (hq : MQS S) (h2 : -2147483648 ≤ i) (h3 : i < 2147483648) (h4 : -2147483648 ≤ place) (h5 : place < 2147483648) : P_X7_proposalAt (I i) (I place) S = if (gM S i && decide (0 ≤ place ∧ place < opens S i)) = true then some (I (nth (opC S i) place (mf S 29).toNat), setf S 45 0) else some (I 0, setf S 45 1) := by
  have hn := h.nn
  have ho := cntO_r S i (mf S 29).toNat
  unfold P_X7_proposalAt
  rw [pb_ok (e_isMeeting h h2 h3), show decide (0 ≤ i ∧ i < mf S 3) = gM S i from rfl, nb]
  rw [pb_ok (if_and1 (b := decide (0 ≤ place ∧ place < opens S i)) (fun _ => by
    rw [pb_ok (e_opens h hq h2 h3), gl0, gl1, I_sub, e_in h4 h5 (by omega) (by omega) (by unfold opens; omega) (by unfold opens; omega), pb_pp, nb0, pp_ap]
    simp only [show (place ≤ opens S i - 1) = (place < opens S i) from propext (by omega)]))]
  rw [pb_ok (e_goes1L _ _), nb]
  by_cases g : (gM S i && decide (0 ≤ place ∧ place < opens S i)) = true
  · rw [if_pos g, g, if_neg (by decide)]
    have g' := g
    rw [Bool.and_eq_true] at g'
    have g2 : 0 ≤ place ∧ place < opens S i := of_decide_eq_true g'.2
    have hop : opC S i = opC (setf S 45 0) i := rfl
    rw [hop, show (mf S 29).toNat = (mf (setf S 45 0) 29).toNat from rfl]
    have hw := wr_thr 0 h
    have hq' : MQS (setf S 45 0) := hq
    show pb _ _ (setf S 45 0) = _
    generalize setf S 45 0 = S0 at hw hq' ⊢
    have hn0 := hw.nn
    generalize hc : opC S0 i = c
    rw [show I place = I (place - cnt c 0) from by show _ = I (place - 0); rw [Int.sub_zero]]
    refine Eq.trans (pb_ok (pl_run (fun j => (I (nth c place j), I (place - cnt c j), I j)) (fun _ => S0) (mf S0 29).toNat 2000 (fun j hj => ?_) (fun j hj => ?_) ?_ (by omega))) ?_
    · rw [r_gi, pp_ap, d_lt (by omega) (by omega) (by omega) (by omega), decide_eq_true (by omega)]
    · have hcj := cnt_r c j
      have hnj := nth_r c place j
      have hk := hw.ms (k := (j : Int)) (by omega) (by omega)
      have en : nth c place (j + 1) = if (c j && decide (cnt c j = place)) = true then (j : Int) else nth c place j := rfl
      have ec : cnt c (j + 1) = cnt c j + (if c j = true then 1 else 0) := rfl
      rw [en, ec]
      try simp only
      have hcd : (decide (ma S0 34 (j : Int) = i) && isOpenB S0 j) = c j := by rw [← hc]; rfl
      have e1 : (if decide (ma S0 34 (j : Int) = i) = true then pb (P_X7_isOpen (I (j : Int))) (fun v35 => pp (decide (¬ v35 = 0))) else pp false) S0 = some (c j, S0) := by
        rw [← hcd]
        exact if_and1 (fun _ => by rw [pb_ok (e_isOpen hw hq' (by omega) (by omega)), nb]; rfl)
      rw [gr34 (by omega) (by omega), d_eq (by omega) (by omega) (by omega) (by omega), pb_ok e1]
      by_cases a : c j = true
      · rw [a, if_pos rfl, if_pos rfl, pb_assoc, gl0, d_eq (by omega) (by omega) (by omega) (by omega)]
        by_cases b : cnt c j = place
        · rw [if_pos (decide_eq_true (by omega)), pb_pp, pb_pp, pp_ap, if_pos (by rw [decide_eq_true b]; rfl), glm1, gl1, I_add, I_add, show place - (cnt c j + 1) = place - cnt c j + -1 by omega]; rfl
        · rw [if_neg (by rw [decide_eq_false (by omega)]; decide), pb_pp, pb_pp, pp_ap, if_neg (by rw [decide_eq_false b]; decide), glm1, gl1, I_add, I_add, show place - (cnt c j + 1) = place - cnt c j + -1 by omega]; rfl
      · rw [Bool.eq_false_iff.mpr a]; simp only [Bool.false_and, Bool.false_eq_true, if_false]; rw [pb_pp, pp_ap, gl1, I_add, Int.add_zero]; rfl
    · rw [r_gi, pp_ap, d_lt (by omega) (by omega) (by omega) (by omega), decide_eq_false (by omega)]
    · rfl
  · rw [if_neg g, Bool.eq_false_iff.mpr g, if_pos (by decide)]; rfl
def rkOf (x : Int) : Int := if x = 1 then 2 else if x = 2 then 1 else 0
def rankFor (S : MS) (p i d : Int) : Int := rkOf (ownOf S p i d)
theorem rank_r (S : MS) (p i d : Int) : 0 ≤ rankFor S p i d ∧ rankFor S p i d ≤ 2 := by
  unfold rankFor rkOf
  split
  · omega
  · split <;> omega
theorem ownOf_r {t p i d : Int} {S : MS} (h : WR t S) : 0 ≤ ownOf S p i d ∧ ownOf S p i d ≤ 4 := by
  unfold ownOf
  split
  · omega
  · exact answers_r h
theorem e_rankFor {t p i d : Int} {S : MS} (h : WR t S) (hp : 0 ≤ p) (hp' : p < 5) (hi : 0 ≤ i) (hi' : i < mf S 3) (h4 : 0 ≤ d) (h5 : d < 60) (hh : isHere S p i = true) : P_X7_rankFor (I p) (I i) (I d) S = some (I (rankFor S p i d), S) := by
  have hr := ownOf_r (p := p) (i := i) (d := d) h
  unfold P_X7_rankFor rankFor rkOf
  rw [pb_ok (e_ownOf h hp hp' hi hi' h4 h5 hh), gl1, gl2, d_eq (by omega) (by omega) (by omega) (by omega), d_eq (by omega) (by omega) (by omega) (by omega)]
  by_cases a : ownOf S p i d = 1
  · rw [if_pos (decide_eq_true a), if_pos a]; rfl
  · rw [if_neg (by rw [decide_eq_false a]; decide), if_neg a]
    by_cases b : ownOf S p i d = 2
    · rw [if_pos (decide_eq_true b), if_pos b]; rfl
    · rw [if_neg (by rw [decide_eq_false b]; decide), if_neg b]; rfl
theorem sCom_r {t z c : Int} {S : MS} (h : WR t S) (h0 : 0 ≤ z) (h1 : z < 3) : c - 13 ≤ sCom S z c ∧ sCom S z c ≤ c + 12 := by
  have := h.zn h0 h1
  unfold sCom
  split <;> omega
theorem begOf_r {t v d : Int} {S : MS} (h : WR t S) (h0 : 0 ≤ v) (h1 : v < mf S 7) (h2 : 0 ≤ d) (h3 : d < 60) : -13 ≤ begOf S v d ∧ begOf S v d ≤ 1451 := by
  have hv := h.vs h0 h1
  have hd := h.dl h0 h1 h2 h3
  unfold begOf
  split
  · have := sCom_r (c := goalOf S v d) h hv.2.2.1.1 hv.2.2.1.2
    unfold goalOf at this ⊢
    omega
  · have := sCom_r (c := 24 * d + ma S 12 v) h hv.2.2.1.1 hv.2.2.1.2
    omega
/-- whether a date of a meeting, as a person has it, takes an hour -/
def takesH (S : MS) (p i d w : Int) : Bool := decide (begOf S (verOf S p i) d ≤ w ∧ w < begOf S (verOf S p i) d + ma S 13 (verOf S p i))
def rkD (S : MS) (p i w m : Int) : Nat → Int
  | 0 => m
  | j + 1 => if hl (datOf S p i) j = true then (if rkD S p i w m j < (if takesH S p i j w = true then rankFor S p i j else 0) then (if takesH S p i j w = true then rankFor S p i j else 0) else rkD S p i w m j) else rkD S p i w m j
def rkM (S : MS) (p w : Int) : Nat → Int
  | 0 => 0
  | i + 1 => rkD S p i w (rkM S p w i) 60
theorem rkD_r {S : MS} {p i w m : Int} (h0 : 0 ≤ m) (h1 : m ≤ 2) : ∀ j, 0 ≤ rkD S p i w m j ∧ rkD S p i w m j ≤ 2 := by
  intro j
  induction j with
  | zero => exact ⟨h0, h1⟩
  | succ j ih =>
    have hr := rank_r S p i j
    unfold rkD
    split
    · split <;> split <;> omega
    · exact ih
theorem rkM_r {S : MS} {p w : Int} : ∀ j, 0 ≤ rkM S p w j ∧ rkM S p w j ≤ 2 := by
  intro j
  induction j with
  | zero => exact ⟨Int.le_refl _, show (0 : Int) ≤ 2 by decide⟩
  | succ j ih => exact rkD_r ih.1 ih.2 60
theorem dat_here {S : MS} {p i d : Int} (h0 : 0 ≤ d) (h1 : d < 60) (g : hl (datOf S p i) d = true) : isHere S p i = true := by
  unfold datOf at g
  by_cases c : isHere S p i = true
  · exact c
  · rw [if_neg c] at g
    exfalso
    unfold hl at g
    have g := of_decide_eq_true g
    obtain ⟨a, rfl⟩ := Int.eq_ofNat_of_zero_le h0
    exact (by decide +kernel : ∀ a, a < 60 → ¬ ((0 : Int64) >>> ((I ((a : Nat) : Int)).toInt64 &&& 63)) &&& 1 = 1) a (by omega) g
theorem e_rankOf {t p w : Int} {S : MS} (h : WR t S) (hp : 0 ≤ p) (hp' : p < 5) (h4 : -3000 ≤ w) (h5 : w ≤ 3000) : P_X7_rankOf (I p) (I w) S = some (I (rkM S p w (mf S 3).toNat), S) := by
  have hn := h.nn
  unfold P_X7_rankOf
  refine Eq.trans (pb_ok (pl_run (fun j => (I (rkM S p w j), I j)) (fun _ => S) (mf S 3).toNat 2000 (fun j hj => ?_) (fun j hj => ?_) ?_ (by omega))) ?_
  · rw [r_gi, pp_ap, d_lt (by omega) (by omega) (by omega) (by omega), decide_eq_true (by omega)]
  · have hr := rkM_r (S := S) (p := p) (w := w) j
    show pb _ _ S = some ((I (rkD S p j w (rkM S p w j) 60), I ((j : Int) + 1)), S)
    generalize rkM S p w j = m at hr ⊢
    rw [pb_ok (e_datesOf (i := (j : Int)) h hp hp' (by omega) (by omega))]
    refine Eq.trans (pb_ok (pl_run (fun k => (I (rkD S p j w m k), I k)) (fun _ => S) 60 2000 (fun k hk => ?_) (fun k hk => ?_) ?_ (by omega))) ?_
    · rw [pp_ap, gl60, d_lt (by omega) (by omega) (by omega) (by omega), decide_eq_true (by omega)]
    · have hd := rkD_r (S := S) (p := p) (i := (j : Int)) (w := w) hr.1 hr.2 k
      have hrk := rank_r S p j k
      have e : rkD S p j w m (k + 1) = if hl (datOf S p j) k = true then (if rkD S p j w m k < (if takesH S p j k w = true then rankFor S p j k else 0) then (if takesH S p j k w = true then rankFor S p j k else 0) else rkD S p j w m k) else rkD S p j w m k := rfl
      rw [e]
      generalize rkD S p j w m k = x at hd ⊢
      try simp only
      rw [e_has, pb_pp, nb]
      by_cases a : hl (datOf S p j) k = true
      · have hh := dat_here (by omega) (by omega) a
        have hv := here_ver h hp hp' (by omega) (by omega) hh
        have hvs := h.vs hv.1 hv.2
        have hb := begOf_r (d := (k : Int)) h hv.1 hv.2 (by omega) (by omega)
        rw [if_pos a, if_pos a, pb_assoc, pb_ok (e_versionOf h hp hp' (by omega) (by omega)), pb_assoc, pb_ok (e_beginOf h hv.1 hv.2 (by omega) (by omega)), pb_assoc, gr13 (by omega) (by omega), gl1, I_add, I_sub, e_in (by omega) (by omega) (by omega) (by omega) (by omega) (by omega), pb_assoc, pb_pp, nb, pb_assoc]
        rw [show decide (begOf S (verOf S p j) k ≤ w ∧ w ≤ begOf S (verOf S p j) k + ma S 13 (verOf S p j) - 1) = takesH S p j k w from by
          unfold takesH
          simp only [show (w ≤ begOf S (verOf S p j) k + ma S 13 (verOf S p j) - 1) = (w < begOf S (verOf S p j) k + ma S 13 (verOf S p j)) from propext (by omega)]]
        have e2 : (if takesH S p j k w = true then P_X7_rankFor (I p) (I (j : Int)) (I (k : Int)) else pp (0 : Int32)) S = some (I (if takesH S p j k w = true then rankFor S p j k else 0), S) := by
          by_cases b : takesH S p j k w = true
          · rw [if_pos b, if_pos b, e_rankFor h hp hp' (by omega) (by omega) (by omega) (by omega) hh]
          · rw [if_neg b, if_neg b]; rfl
        rw [pb_ok e2]
        have hy : 0 ≤ (if takesH S p j k w = true then rankFor S p j k else 0) ∧ (if takesH S p j k w = true then rankFor S p j k else 0) ≤ 2 := by split <;> omega
        generalize (if takesH S p j k w = true then rankFor S p j k else 0) = y at hy ⊢
        rw [d_lt (by omega) (by omega) (by omega) (by omega)]
        by_cases b : x < y
        · rw [if_pos (decide_eq_true b), if_pos b, pb_pp, pb_pp, pp_ap, I_add]; rfl
        · rw [if_neg (by rw [decide_eq_false b]; decide), if_neg b, pb_pp, pb_pp, pp_ap, I_add]; rfl
      · rw [if_neg a, if_neg a, pb_pp, pp_ap, gl1, I_add]; rfl
    · rw [pp_ap, gl60, d_lt (by omega) (by omega) (by omega) (by omega), decide_eq_false (by omega)]
    · rw [pp_ap, gl1, I_add]
  · rw [r_gi, pp_ap, d_lt (by omega) (by omega) (by omega) (by omega), decide_eq_false (by omega)]
  · rfl
def gW (w : Int) : Bool := decide (-48 ≤ w ∧ w ≤ 1600)
theorem e_rank {t p w : Int} {S : MS} (h : WR t S) (h0 : -2147483648 ≤ p) (h1 : p < 2147483648) (h4 : -2147483648 ≤ w) (h5 : w < 2147483648) : P_X7_rank (I p) (I w) S = if (gP p && gW w && true) = true then some (I (rkM (setf S 45 0) p w (mf S 3).toNat), setf S 45 0) else some (I 0, setf S 45 (gc (gP p) (gW w) true)) := by
  unfold P_X7_rank
  rw [e_isPerson h0 h1, pb_pp, show (-48 : Int32) = I (-48) from by decide, gl1600, e_in h4 h5 (by omega) (by omega) (by omega) (by omega), pb_pp, show decide (0 ≤ p ∧ p ≤ 4) = gP p from rfl, show decide (-48 ≤ w ∧ w ≤ 1600) = gW w from rfl, pb_ok (e_goesL _ _ _), nb]
  by_cases g : (gP p && gW w && true) = true
  · rw [if_pos g, if_pos g, gc0 g]
    simp only [Bool.and_eq_true] at g
    have g1 : 0 ≤ p ∧ p ≤ 4 := of_decide_eq_true g.1.1
    have g2 : -48 ≤ w ∧ w ≤ 1600 := of_decide_eq_true g.1.2
    exact e_rankOf (wr_thr 0 h) g1.1 (by omega) (by omega) (by omega)
  · rw [if_neg g, if_neg g]; rfl
theorem e_mark {t p : Int} {S : MS} (h : WR t S) (h0 : -2147483648 ≤ p) (h1 : p < 2147483648) : P_X7_mark (I p) S = if gP p = true then some (I (ma S 27 p), setf S 45 0) else some (I 0, setf S 45 1) := by
  unfold P_X7_mark
  rw [e_isPerson h0 h1, pb_pp, show decide (0 ≤ p ∧ p ≤ 4) = gP p from rfl, pb_ok (e_goes1L _ _), nb]
  by_cases g : gP p = true
  · have g1 : 0 ≤ p ∧ p ≤ 4 := of_decide_eq_true g
    rw [if_pos g, g, if_pos (by decide), ga27 (by omega) (by omega)]; rfl
  · rw [if_neg g, Bool.eq_false_iff.mpr g, if_neg (by decide)]; rfl
def abC (S : MS) (p a : Int) (k : Int) : Bool := decide (a < ma S 26 (8 * p + k))
theorem e_changed {t p a : Int} {S : MS} (h : WR t S) (hp : 0 ≤ p) (hp' : p < 5) (h4 : -2147483648 ≤ a) (h5 : a < 2147483648) : P_X7_changed (I p) (I a) S = some (I (cnt (abC S p a) (mf S 3).toNat), S) := by
  have hn := h.nn
  have hps := h.ps hp hp'
  unfold P_X7_changed
  refine Eq.trans (pb_ok (pl_run (fun j => (I (cnt (abC S p a) j), I j)) (fun _ => S) (mf S 3).toNat 2000 (fun j hj => ?_) (fun j hj => ?_) ?_ (by omega))) ?_
  · rw [r_gi, pp_ap, d_lt (by omega) (by omega) (by omega) (by omega), decide_eq_true (by omega)]
  · have hc := h.cp hp hp' (i := (j : Int)) (by omega) (by omega)
    have e : cnt (abC S p a) (j + 1) = cnt (abC S p a) j + (if abC S p a j = true then 1 else 0) := rfl
    rw [e]
    try simp only
    rw [e_at, pb_pp, gr26 (by omega) (by omega), d_lt (by omega) (by omega) (by omega) (by omega), show decide (a < ma S 26 (8 * p + (j : Int))) = abC S p a j from rfl]
    by_cases g : abC S p a j = true
    · rw [if_pos g, if_pos g, pb_pp, pp_ap, gl1, I_add, I_add]; rfl
    · rw [if_neg g, if_neg g, pb_pp, pp_ap, gl0, gl1, I_add, I_add]; rfl
  · rw [r_gi, pp_ap, d_lt (by omega) (by omega) (by omega) (by omega), decide_eq_false (by omega)]
  · rfl
def gMk (S : MS) (p a : Int) : Bool := gP p && decide (0 ≤ a ∧ a ≤ ma S 27 p)
def gFl (S : MS) (p a : Int) : Bool := gMk S p a && decide (ma S 28 p ≤ a)
theorem e_asksMark {t p a : Int} {S : MS} (h : WR t S) (h0 : -2147483648 ≤ p) (h1 : p < 2147483648) (h4 : -2147483648 ≤ a) (h5 : a < 2147483648) : P_X7_asksMark (I p) (I a) S = some (b2i (gP p && gMk S p a && gFl S p a), setf S 45 (gc (gP p) (gMk S p a) (gFl S p a))) := by
  have hn := h.nn
  unfold P_X7_asksMark
  rw [e_isPerson h0 h1, pb_pp, show decide (0 ≤ p ∧ p ≤ 4) = gP p from rfl, nb]
  rw [pb_ok (if_and1 (b := decide (0 ≤ a ∧ a ≤ ma S 27 p)) (fun g => by
    have g1 : 0 ≤ p ∧ p ≤ 4 := of_decide_eq_true g
    have hps := h.ps g1.1 (by omega)
    rw [gr27 (by omega) (by omega), gl0, e_in h4 h5 (by omega) (by omega) (by omega) (by omega), pb_pp, nb0, pp_ap]))]
  rw [show (gP p && decide (0 ≤ a ∧ a ≤ ma S 27 p)) = gMk S p a from rfl]
  rw [pb_ok (if_and1 (b := decide (ma S 28 p ≤ a)) (fun g => by
    unfold gMk at g
    rw [Bool.and_eq_true] at g
    have g1 : 0 ≤ p ∧ p ≤ 4 := of_decide_eq_true g.1
    have hps := h.ps g1.1 (by omega)
    rw [gr28 (by omega) (by omega), pp_ap, d_le (by omega) (by omega) (by omega) (by omega)]))]
  rw [pb_ok (e_goes _ _ _ _), pz_ok]; rfl
theorem gFl_p {S : MS} {p a : Int} (g : gFl S p a = true) : (0 ≤ p ∧ p < 5) ∧ 0 ≤ a ∧ a ≤ ma S 27 p := by
  unfold gFl gMk at g
  simp only [Bool.and_eq_true] at g
  have g1 : 0 ≤ p ∧ p ≤ 4 := of_decide_eq_true g.1.1
  have g2 : 0 ≤ a ∧ a ≤ ma S 27 p := of_decide_eq_true g.1.2
  omega
theorem e_changes {t p a : Int} {S : MS} (h : WR t S) (h0 : -2147483648 ≤ p) (h1 : p < 2147483648) (h4 : -2147483648 ≤ a) (h5 : a < 2147483648) : P_X7_changes (I p) (I a) S = if (gP p && gMk S p a && gFl S p a) = true then some (I (cnt (abC S p a) (mf S 3).toNat), setf S 45 0) else some (I 0, setf S 45 (gc (gP p) (gMk S p a) (gFl S p a))) := by
  unfold P_X7_changes
  rw [pb_ok (e_asksMark h h0 h1 h4 h5), nb]
  by_cases g : (gP p && gMk S p a && gFl S p a) = true
  · rw [if_pos g, if_pos g, gc0 g]
    rw [Bool.and_eq_true] at g
    have q := gFl_p g.2
    exact e_changed (wr_thr 0 h) q.1.1 q.1.2 h4 h5
  · rw [if_neg g, if_neg g]; rfl
def lastTo (c : Int → Bool) : Nat → Int
  | 0 => -1
  | j + 1 => if c j = true then (j : Int) else lastTo c j
def aheadC (S : MS) (p a k : Int) (n : Int) : Bool := decide (a < ma S 26 (8 * p + n)) && decide (ma S 26 (8 * p + n) < ma S 26 (8 * p + k))
def chgC (S : MS) (p a place : Int) (k : Int) : Bool := decide (a < ma S 26 (8 * p + k)) && decide (cnt (aheadC S p a k) (mf S 3).toNat = place)
theorem e_changeAt {t p a place : Int} {S : MS} (h : WR t S) (h0 : -2147483648 ≤ p) (h1 : p < 2147483648) (h4 : -2147483648 ≤ a) (h5 : a < 2147483648) (h6 : -2147483648 ≤ place) (h7 : place < 2147483648) : P_X7_changeAt (I p) (I a) (I place) S = if (gP p && gMk S p a && gFl S p a) = true then (if 0 ≤ place ∧ place < cnt (abC S p a) (mf S 3).toNat then some (I (lastTo (chgC S p a place) (mf S 3).toNat), setf (setf S 45 0) 45 0) else some (I 0, setf (setf S 45 0) 45 1)) else some (I 0, setf S 45 (gc (gP p) (gMk S p a) (gFl S p a))) := by
  have hn := h.nn
  unfold P_X7_changeAt
  rw [pb_ok (e_asksMark h h0 h1 h4 h5), nb]
  by_cases g : (gP p && gMk S p a && gFl S p a) = true
  · rw [if_pos g, g, if_neg (by decide), gc0 g]
    rw [Bool.and_eq_true] at g
    have q := gFl_p g.2
    have hc := cnt_r (abC S p a) (mf S 3).toNat
    have e1 : pb (P_X7_changed (I p) (I a)) (fun v9 => pb (P_X7_in (I place) (0 : Int32) (v9 - (1 : Int32))) (fun v15 => pb (P_X7_goes v15 (1 : Int32) (1 : Int32)) (fun v18 => pp (!(decide (¬ v18 = 0)))))) (setf S 45 0) = some (!decide (0 ≤ place ∧ place < cnt (abC S p a) (mf S 3).toNat), setf (setf S 45 0) 45 (gc (decide (0 ≤ place ∧ place < cnt (abC S p a) (mf S 3).toNat)) true true)) := by
      rw [pb_ok (e_changed (wr_thr 0 h) q.1.1 q.1.2 h4 h5)]
      rw [show cnt (abC (setf S 45 0) p a) (mf (setf S 45 0) 3).toNat = cnt (abC S p a) (mf S 3).toNat from rfl]
      rw [show I (cnt (abC S p a) (mf S 3).toNat) - (1 : Int32) = I (cnt (abC S p a) (mf S 3).toNat - 1) from by rw [gl1, I_sub], show (0 : Int32) = I 0 from gl0, e_in h6 h7 (by omega) (by omega) (by omega) (by omega), pb_pp, pb_ok (e_goes1L _ _), nb0, pp_ap, Bool.and_true, Bool.and_true]
      simp only [show (place ≤ cnt (abC S p a) (mf S 3).toNat - 1) = (place < cnt (abC S p a) (mf S 3).toNat) from propext (by omega)]
    rw [pb_ok e1]
    by_cases b : 0 ≤ place ∧ place < cnt (abC S p a) (mf S 3).toNat
    · rw [if_pos b, decide_eq_true b, if_neg (by decide)]
      have hw : WR t (setf (setf S 45 0) 45 0) := wr_thr 0 (wr_thr 0 h)
      rw [show lastTo (chgC S p a place) (mf S 3).toNat = lastTo (chgC (setf (setf S 45 0) 45 0) p a place) (mf (setf (setf S 45 0) 45 0) 3).toNat from rfl]
      show pb _ _ (setf (setf S 45 0) 45 0) = _
      generalize setf (setf S 45 0) 45 0 = S0 at hw ⊢
      have hn0 := hw.nn
      have hps := hw.ps q.1.1 q.1.2
      have hlast : ∀ j, -1 ≤ lastTo (chgC S0 p a place) j ∧ lastTo (chgC S0 p a place) j < j := fun j => by
        induction j with
        | zero => exact ⟨Int.le_refl _, show (-1 : Int) < 0 by decide⟩
        | succ j ih => unfold lastTo; split <;> omega
      refine Eq.trans (pb_ok (pl_run (fun j => (I (lastTo (chgC S0 p a place) j), I j)) (fun _ => S0) (mf S0 3).toNat 2000 (fun j hj => ?_) (fun j hj => ?_) ?_ (by omega))) ?_
      · rw [r_gi, pp_ap, d_lt (by omega) (by omega) (by omega) (by omega), decide_eq_true (by omega)]
      · have hcj := hw.cp q.1.1 q.1.2 (i := (j : Int)) (by omega) (by omega)
        refine Eq.trans (pb_ok (pl_run (fun n => (I (cnt (aheadC S0 p a j) n), I n)) (fun _ => S0) (mf S0 3).toNat 2000 (fun n hn1 => ?_) (fun n hn1 => ?_) ?_ (by omega))) ?_
        · rw [r_gi, pp_ap, d_lt (by omega) (by omega) (by omega) (by omega), decide_eq_true (by omega)]
        · have hcn := hw.cp q.1.1 q.1.2 (i := (n : Int)) (by omega) (by omega)
          have e : cnt (aheadC S0 p a j) (n + 1) = cnt (aheadC S0 p a j) n + (if aheadC S0 p a j n = true then 1 else 0) := rfl
          rw [e]
          try simp only
          rw [e_at, pb_pp, gr26 (by omega) (by omega), d_lt (by omega) (by omega) (by omega) (by omega)]
          rw [pb_ok (if_and1 (b := decide (ma S0 26 (8 * p + (n : Int)) < ma S0 26 (8 * p + (j : Int)))) (fun _ => by rw [pb_pp, gr26 (by omega) (by omega), e_at, pb_pp, gr26 (by omega) (by omega), pp_ap, d_lt (by omega) (by omega) (by omega) (by omega)]))]
          rw [show (decide (a < ma S0 26 (8 * p + (n : Int))) && decide (ma S0 26 (8 * p + (n : Int)) < ma S0 26 (8 * p + (j : Int)))) = aheadC S0 p a j n from rfl]
          by_cases d : aheadC S0 p a j n = true
          · rw [if_pos d, if_pos d, pb_pp, pp_ap, gl1, I_add, I_add]; rfl
          · rw [if_neg d, if_neg d, pb_pp, pp_ap, gl0, gl1, I_add, I_add]; rfl
        · rw [r_gi, pp_ap, d_lt (by omega) (by omega) (by omega) (by omega), decide_eq_false (by omega)]
        · have hca := cnt_r (aheadC S0 p a j) (mf S0 3).toNat
          try simp only
          rw [e_at, pb_pp, gr26 (by omega) (by omega), d_lt (by omega) (by omega) (by omega) (by omega), d_eq (by omega) (by omega) (by omega) (by omega), ifp, pb_pp]
          rw [show (decide (a < ma S0 26 (8 * p + (j : Int))) && decide (cnt (aheadC S0 p a j) (mf S0 3).toNat = place)) = chgC S0 p a place j from rfl]
          have e : lastTo (chgC S0 p a place) (j + 1) = if chgC S0 p a place j = true then (j : Int) else lastTo (chgC S0 p a place) j := rfl
          rw [e]
          by_cases d : chgC S0 p a place j = true
          · rw [if_pos d, if_pos d, pb_pp, pp_ap, gl1, I_add]; rfl
          · rw [if_neg d, if_neg d, pb_pp, pp_ap, gl1, I_add]; rfl
      · rw [r_gi, pp_ap, d_lt (by omega) (by omega) (by omega) (by omega), decide_eq_false (by omega)]
      · rfl
    · rw [if_neg b, decide_eq_false b, if_pos (by decide)]; rfl
  · rw [if_neg g, Bool.eq_false_iff.mpr g, if_pos (by decide), pb_pp, if_pos rfl]; rfl
