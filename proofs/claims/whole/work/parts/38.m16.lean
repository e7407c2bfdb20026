/-! what is asked of dates, answers, ranks, marks -/
theorem pm_eq {S : MS} {p i : Int} : (decide (0 ≤ p ∧ p ≤ 4) && gM S i) = gPM S p i := by
  unfold gPM gM
  by_cases a : 0 ≤ p ∧ p ≤ 4 <;> simp [a]
theorem pz_ok {b : Bool} {S : MS} : pz (b2i b) S = some (b2i b, S) := by rw [pz_b2i, pp_ap]
def gPD (S : MS) (p i d : Int) : Bool := gPM S p i && gD d && hl (datOf S p i) d
theorem e_asksDate {t p i d : Int} {S : MS} (h : WR t S) (h0 : -2147483648 ≤ p) (h1 : p < 2147483648) (h2 : -2147483648 ≤ i) (h3 : i < 2147483648) (h4 : -2147483648 ≤ d) (h5 : d < 2147483648) : P_X7_asksDate (I p) (I i) (I d) S = some (b2i (gPM S p i && gD d && gPD S p i d), setf S 45 (gc (gPM S p i) (gD d) (gPD S p i d))) := by
  have hn := h.nn
  unfold P_X7_asksDate
  rw [e_isPerson h0 h1, pb_pp, nb, pb_ok (if_and1 (fun _ => mb h h2 h3)), pm_eq, e_isDay h4 h5, pb_pp, pb_pp, nb, ifp, pb_pp]
  rw [pb_ok (if_and1 (b := hl (datOf S p i) d) (fun q => by
    rw [Bool.and_eq_true] at q
    have q := gPM_d q.1
    rw [pb_ok (e_datesOf h q.1.1 q.1.2 q.2.1 q.2.2), e_has, pb_pp, nb]; rfl))]
  rw [pb_ok (e_goes _ _ _ _), pz_ok]; rfl
theorem gPD_here {t p i d : Int} {S : MS} (h : WR t S) (g : gPD S p i d = true) : ((0 ≤ p ∧ p < 5) ∧ 0 ≤ i ∧ i < mf S 3) ∧ (0 ≤ d ∧ d < 60) ∧ isHere S p i = true := by
  unfold gPD at g
  simp only [Bool.and_eq_true] at g
  have g1 := gPM_d g.1.1
  have g2 : 0 ≤ d ∧ d ≤ 59 := of_decide_eq_true g.1.2
  refine ⟨g1, by omega, ?_⟩
  have g3 := g.2
  unfold datOf at g3
  by_cases c : isHere S p i = true
  · exact c
  · rw [if_neg c] at g3
    exfalso
    unfold hl at g3
    have g3 := of_decide_eq_true g3
    obtain ⟨a, rfl⟩ := Int.eq_ofNat_of_zero_le g2.1
    exact (by decide +kernel : ∀ a, a < 60 → ¬ ((0 : Int64) >>> ((I ((a : Nat) : Int)).toInt64 &&& 63)) &&& 1 = 1) a (by omega) g3
theorem e_begin {t p i d : Int} {S : MS} (h : WR t S) (h0 : -2147483648 ≤ p) (h1 : p < 2147483648) (h2 : -2147483648 ≤ i) (h3 : i < 2147483648) (h4 : -2147483648 ≤ d) (h5 : d < 2147483648) : P_X7_begin (I p) (I i) (I d) S = if (gPM S p i && gD d && gPD S p i d) = true then some (I (begOf S (verOf S p i) d), setf S 45 0) else some (I 0, setf S 45 (gc (gPM S p i) (gD d) (gPD S p i d))) := by
  unfold P_X7_begin
  rw [pb_ok (e_asksDate h h0 h1 h2 h3 h4 h5), nb]
  by_cases g : (gPM S p i && gD d && gPD S p i d) = true
  · have g' := g
    rw [Bool.and_eq_true] at g'
    have q := gPD_here h g'.2
    have hv := here_ver h q.1.1.1 q.1.1.2 q.1.2.1 q.1.2.2 q.2.2
    rw [if_pos g, if_pos g, gc0 g, pb_ok (e_versionOf (wr_thr 0 h) q.1.1.1 q.1.1.2 q.1.2.1 q.1.2.2)]
    exact e_beginOf (v := verOf S p i) (wr_thr 0 h) hv.1 hv.2 q.2.1.1 q.2.1.2
  · rw [if_neg g, if_neg g]; rfl
def ownOf (S : MS) (p i d : Int) : Int := if ma S 4 i = p then 1 else answers S i p d (ma S 25 (8 * p + i)) true
theorem ownOf_ma {S S' : MS} (h : ma S' = ma S) (h2 : mf S' 29 = mf S 29) (p i d : Int) : ownOf S' p i d = ownOf S p i d := by
  unfold ownOf; rw [answers_ma h h2, h]
theorem e_ownOf {t p i d : Int} {S : MS} (h : WR t S) (hp : 0 ≤ p) (hp' : p < 5) (hi : 0 ≤ i) (hi' : i < mf S 3) (h4 : 0 ≤ d) (h5 : d < 60) (hh : isHere S p i = true) : P_X7_ownOf (I p) (I i) (I d) S = some (I (ownOf S p i d), S) := by
  have hn := h.nn
  have hm := h.mt hi hi'
  have hv := here_ver h hp hp' hi hi' hh
  unfold P_X7_ownOf ownOf
  rw [gr4 hi (by omega), d_eq (by omega) (by omega) (by omega) (by omega)]
  by_cases c : ma S 4 i = p
  · rw [if_pos (decide_eq_true c), if_pos c]; rfl
  · unfold verOf at hv
    rw [if_neg c] at hv
    rw [if_neg (by rw [decide_eq_false c]; decide), if_neg c, e_at, pb_pp, gr25 (by omega) (by omega)]
    exact e_answers true h (by omega) (by omega) (by omega) (by omega) h4 h5 hv.1 hv.2
theorem answers_r {t i p d b : Int} {all : Bool} {S : MS} (h : WR t S) : 0 ≤ answers S i p d b all ∧ answers S i p d b all ≤ 4 := by
  have hn := h.nn
  have hb := bestTo_r S (cA S i p d b all) (mf S 29).toNat
  unfold answers
  split
  · omega
  · have := h.ms (k := bestTo S (cA S i p d b all) (mf S 29).toNat) (by omega) (by omega)
    omega
theorem e_ownAnswer {t p i d : Int} {S : MS} (h : WR t S) (h0 : -2147483648 ≤ p) (h1 : p < 2147483648) (h2 : -2147483648 ≤ i) (h3 : i < 2147483648) (h4 : -2147483648 ≤ d) (h5 : d < 2147483648) : P_X7_ownAnswer (I p) (I i) (I d) S = if (gPM S p i && gD d && gPD S p i d) = true then some (I (ownOf S p i d), setf S 45 0) else some (I 0, setf S 45 (gc (gPM S p i) (gD d) (gPD S p i d))) := by
  unfold P_X7_ownAnswer
  rw [pb_ok (e_asksDate h h0 h1 h2 h3 h4 h5), nb]
  by_cases g : (gPM S p i && gD d && gPD S p i d) = true
  · have g' := g
    rw [Bool.and_eq_true] at g'
    have q := gPD_here h g'.2
    rw [if_pos g, if_pos g, gc0 g, ← ownOf_ma (S := S) (S' := setf S 45 0) rfl rfl]
    exact e_ownOf (wr_thr 0 h) q.1.1.1 q.1.1.2 q.1.2.1 q.1.2.2 q.2.1.1 q.2.1.2 q.2.2
  · rw [if_neg g, if_neg g]; rfl
theorem e_isAsked {t p i : Int} {S : MS} (h : WR t S) (h0 : -2147483648 ≤ p) (h1 : p < 2147483648) (h2 : -2147483648 ≤ i) (h3 : i < 2147483648) : P_X7_isAsked (I i) (I p) S = if gPM S p i = true then some (b2i (hb (asked S i) p), setf S 45 0) else some (b2i false, setf S 45 1) := by
  unfold P_X7_isAsked
  rw [pb_ok (e_asks' h h0 h1 h2 h3), nb]
  by_cases g : gPM S p i = true
  · have q := gPM_d g
    rw [if_pos g, if_pos g, g, pb_assoc, pb_ok (e_asked (wr_thr _ h) q.2.1 q.2.2), pb_pp, hb_d, pp_ap, asked_ma (S := S) (S' := setf S 45 (gc true true true)) rfl rfl]; rfl
  · rw [if_neg g, if_neg g, Bool.eq_false_iff.mpr g]; rfl
def gND (S : MS) (p i d : Int) : Bool := gPM S p i && gD d && gN S i d
def ansOf (S : MS) (i p d : Int) : Int := if hb (asked S i) p = true then answers S i p d (ma S 5 i) false else -1
theorem e_answerOf {t p i d : Int} {S : MS} (h : WR t S) (h0 : -2147483648 ≤ p) (h1 : p < 2147483648) (h2 : -2147483648 ≤ i) (h3 : i < 2147483648) (h4 : -2147483648 ≤ d) (h5 : d < 2147483648) : P_X7_answerOf (I i) (I p) (I d) S = if (gPM S p i && gD d && gND S p i d) = true then some (I (ansOf S i p d), setf S 45 0) else some (I 0, setf S 45 (gc (gPM S p i) (gD d) (gND S p i d))) := by
  have hn := h.nn
  unfold P_X7_answerOf
  rw [e_isPerson h0 h1, pb_pp, nb, pb_ok (if_and1 (fun _ => mb h h2 h3)), pm_eq, e_isDay h4 h5, pb_pp, pb_pp, nb, ifp, pb_pp]
  rw [pb_ok (if_and1 (b := gN S i d) (fun q => by
    rw [Bool.and_eq_true] at q
    have q := gPM_d q.1
    exact dateX h q.2.1 q.2.2))]
  rw [pb_ok (e_goes _ _ _ _), nb]
  rw [show (gPM S p i && decide (0 ≤ d ∧ d ≤ 59) && gN S i d) = gND S p i d from rfl, show decide (0 ≤ d ∧ d ≤ 59) = gD d from rfl]
  by_cases g : (gPM S p i && gD d && gND S p i d) = true
  · rw [if_pos g, gc0 g, g, if_neg (by decide)]
    have g' := g
    simp only [Bool.and_eq_true] at g'
    have q := gPM_d g'.1.1
    have q2 : 0 ≤ d ∧ d ≤ 59 := of_decide_eq_true g'.1.2
    have hm := h.mt q.2.1 q.2.2
    rw [pb_ok (e_asked (wr_thr 0 h) q.2.1 q.2.2), asked_ma (S := S) (S' := setf S 45 0) rfl rfl, hb_d0]
    unfold ansOf
    by_cases c : hb (asked S i) p = true
    · rw [if_pos c, c, if_neg (by decide), gr5 (by omega) (by omega), ← answers_ma (S := S) (S' := setf S 45 0) rfl rfl]
      exact e_answers false (wr_thr 0 h) (by omega) (by omega) (by omega) (by omega) q2.1 (by omega) hm.2.1.1 hm.2.1.2
    · rw [if_neg c, Bool.eq_false_iff.mpr c, if_pos (by decide), glm1]; rfl
  · rw [if_neg g, Bool.eq_false_iff.mpr g, if_pos (by decide)]; rfl
/-- all up to one have a property -/
def allTo (c : Int → Bool) : Nat → Bool
  | 0 => true
  | j + 1 => allTo c j && c j
theorem allTo_mono {c : Int → Bool} {N n : Nat} (h : N ≤ n) (hN : allTo c N = false) : allTo c n = false := by
  induction n with
  | zero => have : N = 0 := by omega
            subst this; exact hN
  | succ n ih =>
    by_cases e : N = n + 1
    · subst e; exact hN
    · unfold allTo; rw [ih (by omega)]; rfl
theorem allTo_first {c : Int → Bool} : ∀ n, allTo c n = false → ∃ N, N ≤ n ∧ allTo c N = false ∧ ∀ j, j < N → allTo c j = true := by
  intro n
  induction n with
  | zero => intro h; exact absurd h (show ¬ true = false by decide)
  | succ n ih =>
    intro h
    by_cases e : allTo c n = true
    · exact ⟨n + 1, Nat.le_refl _, h, fun j hj => by
        rcases Nat.lt_or_ge j n with q | q
        · cases hj2 : allTo c j
          · rw [allTo_mono (by omega) hj2] at e; exact absurd e (by decide)
          · rfl
        · have : j = n := by omega
          subst this; exact e⟩
    · obtain ⟨N, h1, h2, h3⟩ := ih (Bool.eq_false_iff.mpr e)
      exact ⟨N, by omega, h2, h3⟩
def agD (S : MS) (i p d : Int) : Bool := !hl (ml S 23 (ma S 5 i)) d || decide (answers S i p d (ma S 5 i) true = answers S i p d (ma S 5 i) false)
def agP (S : MS) (i set p : Int) : Bool := !hb set p || (decide (ma S 25 (8 * p + i) = ma S 5 i) && allTo (agD S i p) 60)
def agreesB (S : MS) (i : Int) : Bool := decide (ma S 19 (ma S 5 i) = 0) && allTo (agP S i (asked S i)) 5
theorem e_agD {t i p d : Int} {S : MS} (h : WR t S) (hi : 0 ≤ i) (hi' : i < mf S 3) (hp : 0 ≤ p) (hp' : p < 5) (h4 : 0 ≤ d) (h5 : d < 60) :
    pb (pai 5 (I i)) (fun v60 => pb (pal 23 v60) (fun v61 => pb (P_X7_has v61 (I d)) (fun v63 => pb (if (!(decide (¬ v63 = 0))) = true then pp true else pb (pai 5 (I i)) (fun v72 => pb (P_X7_answers (I i) (I p) (I d) v72 (1 : Int32)) (fun v74 => pb (pai 5 (I i)) (fun v82 => pb (P_X7_answers (I i) (I p) (I d) v82 (0 : Int32)) (fun v84 => pp (decide (v74 = v84))))))) (fun v86 => pp ((b2i v86), (I d + 1)))))) S = some ((b2i (agD S i p d), I (d + 1)), S) := by
  have hn := h.nn
  have hm := h.mt hi hi'
  have r1 := answers_r (i := i) (p := p) (d := d) (b := ma S 5 i) (all := true) h
  have r2 := answers_r (i := i) (p := p) (d := d) (b := ma S 5 i) (all := false) h
  rw [gr5 (by omega) (by omega), gr23 (by omega) (by omega), e_has, pb_pp, nb]
  rw [pb_ok (if_or1 (b := decide (answers S i p d (ma S 5 i) true = answers S i p d (ma S 5 i) false)) (fun _ => by
    rw [gr5 (by omega) (by omega), pb_ok (show P_X7_answers (I i) (I p) (I d) (I (ma S 5 i)) (1 : Int32) S = _ from e_answers true h (by omega) (by omega) (by omega) (by omega) h4 h5 hm.2.1.1 hm.2.1.2), gr5 (by omega) (by omega), pb_ok (show P_X7_answers (I i) (I p) (I d) (I (ma S 5 i)) (0 : Int32) S = _ from e_answers false h (by omega) (by omega) (by omega) (by omega) h4 h5 hm.2.1.1 hm.2.1.2), pp_ap, d_eq (by omega) (by omega) (by omega) (by omega)]))]
  rw [pp_ap, gl1, I_add]; rfl
theorem e_agrees {t i : Int} {S : MS} (h : WR t S) (h2 : -2147483648 ≤ i) (h3 : i < 2147483648) : P_X7_agrees (I i) S = if gM S i = true then some (b2i (agreesB S i), setf S 45 0) else some (b2i false, setf S 45 1) := by
  unfold P_X7_agrees
  rw [pb_ok (e_isMeeting h h2 h3), show decide (0 ≤ i ∧ i < mf S 3) = gM S i from rfl, pb_ok (e_goes1L _ _), nb]
  by_cases g : gM S i = true
  · rw [if_pos g, g, if_neg (by decide)]
    have q : 0 ≤ i ∧ i < mf S 3 := of_decide_eq_true g
    have e1 : pb (P_X7_isHeld (I i)) (fun v11 => pp (!decide (¬ v11 = 0))) (setf S 45 (gc true true true)) = some (!gH S i, setf S 45 0) := by
      rw [pb_ok (e_isHeld (wr_thr _ h) h2 h3), nb]; rfl
    rw [pb_ok e1]
    have hw := wr_thr 0 h
    have eh : gH S i = decide (ma S 19 (ma S 5 i) = 0) := by
      unfold gH
      simp only [q, and_self, true_and]
    unfold agreesB
    rw [← eh]
    by_cases c : gH S i = true
    · rw [c, if_neg (by decide), pb_ok (e_asked hw q.1 q.2), asked_ma (S := S) (S' := setf S 45 0) rfl rfl, Bool.true_and]
      generalize hset : asked S i = set
      have hagp : ∀ p, agP (setf S 45 0) i set p = agP S i set p := fun p => by
        unfold agP
        have : agD (setf S 45 0) i p = agD S i p := by
          funext d
          unfold agD
          rw [answers_ma (S := S) (S' := setf S 45 0) rfl rfl, answers_ma (S := S) (S' := setf S 45 0) rfl rfl]
          rfl
        rw [this]; rfl
      have hall : ∀ j, allTo (agP S i set) j = allTo (agP (setf S 45 0) i set) j := fun j => by
        rw [show agP S i set = agP (setf S 45 0) i set from funext fun p => (hagp p).symm]
      rw [hall 5]
      have q' : i < mf (setf S 45 0) 3 := q.2
      generalize setf S 45 0 = S0 at hw q' ⊢
      have hn0 := hw.nn
      refine Eq.trans (pb_ok (pl_run (fun j => (b2i (allTo (agP S0 i set) j), I j)) (fun _ => S0) 5 2000 (fun j hj => ?_) (fun j hj => ?_) ?_ (by omega))) ?_
      · rw [pp_ap, gl5, d_lt (by omega) (by omega) (by omega) (by omega), decide_eq_true (by omega)]
      · have ea : allTo (agP S0 i set) (j + 1) = (allTo (agP S0 i set) j && agP S0 i set j) := rfl
        rw [ea]
        generalize allTo (agP S0 i set) j = is
        try simp only
        rw [nb, hb_d]
        have hm := hw.mt q.1 q'
        have hcp := hw.cp (p := (j : Int)) (i := i) (by omega) (by omega) (by omega) (by omega)
        have e2 : (if is = true then if (!hb set j) = true then pp true else pb (P_X7_at (I (j : Int)) (I i)) (fun v37 => pb (pai 25 v37) (fun v38 => pb (pai 5 (I i)) (fun v42 => pp (decide (v38 = v42))))) else pp false) S0 = some (is && (!hb set j || decide (ma S0 25 (8 * j + i) = ma S0 5 i)), S0) := if_and1 (fun _ => if_or1 (fun _ => by
          rw [e_at, pb_pp, gr25 (by omega) (by omega), gr5 (by omega) (by omega), pp_ap, d_eq (by omega) (by omega) (by omega) (by omega)]))
        rw [pb_ok e2]
        have hcond : ∀ (k : Int) (x : Bool), 0 ≤ k → k ≤ 60 → (fun (s48 : Int32 × Int32) => pb (if decide (s48.2 < (60 : Int32)) = true then pp (hb set j) else pp false) (fun v54 => if v54 = true then pp (decide (¬ s48.1 = 0)) else pp false)) (b2i x, I k) S0 = some (decide (k < 60) && hb set j && x, S0) := fun k x h0 h1 => by
          simp only
          rw [gl60, d_lt (by omega) (by omega) (by omega) (by omega), ifp, pb_pp, nb, ifp, pp_ap]
        have e3 : ∃ s2, pl 2000 (fun (s48 : Int32 × Int32) => pb (if decide (s48.2 < (60 : Int32)) = true then pp (hb set j) else pp false) (fun v54 => if v54 = true then pp (decide (¬ s48.1 = 0)) else pp false)) (fun (s48 : Int32 × Int32) => pb (pai 5 (I i)) (fun v60 => pb (pal 23 v60) (fun v61 => pb (P_X7_has v61 s48.2) (fun v63 => pb (if (!(decide (¬ v63 = 0))) = true then pp true else pb (pai 5 (I i)) (fun v72 => pb (P_X7_answers (I i) (I (j : Int)) s48.2 v72 (1 : Int32)) (fun v74 => pb (pai 5 (I i)) (fun v82 => pb (P_X7_answers (I i) (I (j : Int)) s48.2 v82 (0 : Int32)) (fun v84 => pp (decide (v74 = v84))))))) (fun v86 => pp ((b2i v86), (s48.2 + 1))))))) (b2i (is && (!hb set j || decide (ma S0 25 (8 * j + i) = ma S0 5 i))), (0 : Int32)) S0 = some ((b2i (is && agP S0 i set j), s2), S0) := by
          by_cases c1 : (hb set j && (is && (!hb set j || decide (ma S0 25 (8 * j + i) = ma S0 5 i)))) = true
          · rw [Bool.and_eq_true] at c1
            have c1a := c1.1
            have c1b := c1.2
            rw [c1b]
            rw [c1a, Bool.not_true, Bool.false_or, Bool.and_eq_true] at c1b
            have ev : (is && agP S0 i set j) = allTo (agD S0 i j) 60 := by
              unfold agP
              rw [c1b.1, c1a, c1b.2]; simp
            rw [ev]
            have hst : ∀ k : Nat, k < 60 → allTo (agD S0 i j) k = true → (fun (s48 : Int32 × Int32) => pb (pai 5 (I i)) (fun v60 => pb (pal 23 v60) (fun v61 => pb (P_X7_has v61 s48.2) (fun v63 => pb (if (!(decide (¬ v63 = 0))) = true then pp true else pb (pai 5 (I i)) (fun v72 => pb (P_X7_answers (I i) (I (j : Int)) s48.2 v72 (1 : Int32)) (fun v74 => pb (pai 5 (I i)) (fun v82 => pb (P_X7_answers (I i) (I (j : Int)) s48.2 v82 (0 : Int32)) (fun v84 => pp (decide (v74 = v84))))))) (fun v86 => pp ((b2i v86), (s48.2 + 1))))))) (b2i (allTo (agD S0 i j) k), I k) S0 = some ((b2i (allTo (agD S0 i j) (k + 1)), I ((k + 1 : Nat) : Int)), S0) := fun k hk hak => by
              have := e_agD (p := (j : Int)) (d := (k : Int)) hw q.1 q' (by omega) (by omega) (by omega) (by omega)
              refine Eq.trans this ?_
              show some ((b2i (agD S0 i j k), I ((k : Int) + 1)), S0) = some ((b2i (allTo (agD S0 i j) k && agD S0 i j k), I ((k : Int) + 1)), S0)
              rw [hak, Bool.true_and]
            cases hall60 : allTo (agD S0 i j) 60
            · obtain ⟨N, n1, n2, n3⟩ := allTo_first 60 hall60
              refine ⟨I N, Eq.trans (pl_run (fun k => (b2i (allTo (agD S0 i j) k), I k)) (fun _ => S0) N 2000 (fun k hk => (hcond k (allTo (agD S0 i j) k) (by omega) (by omega)).trans (by rw [n3 k hk, c1a, decide_eq_true (show (k : Int) < 60 by omega), Bool.and_true, Bool.and_true])) (fun k hk => hst k (by omega) (n3 k hk)) ((hcond N (allTo (agD S0 i j) N) (by omega) (by omega)).trans (by rw [n2, Bool.and_false])) (by omega)) ?_⟩
              show some ((b2i (allTo (agD S0 i j) N), I N), S0) = _
              rw [n2]
            · refine ⟨I 60, ?_⟩
              have hk1 : ∀ k : Nat, k ≤ 60 → allTo (agD S0 i j) k = true := fun k hk => by
                cases hx : allTo (agD S0 i j) k
                · rw [allTo_mono hk hx] at hall60; exact absurd hall60 (by decide)
                · rfl
              refine Eq.trans (pl_run (fun k => (b2i (allTo (agD S0 i j) k), I k)) (fun _ => S0) 60 2000 (fun k hk => (hcond k (allTo (agD S0 i j) k) (by omega) (by omega)).trans (by rw [hk1 k (by omega), c1a, decide_eq_true (show (k : Int) < 60 by omega), Bool.and_true, Bool.and_true])) (fun k hk => hst k (by omega) (hk1 k (by omega))) ((hcond 60 (allTo (agD S0 i j) 60) (by omega) (by omega)).trans (by rw [decide_eq_false (show ¬ (60 : Int) < 60 by omega), Bool.false_and, Bool.false_and])) (by omega)) ?_
              show some ((b2i (allTo (agD S0 i j) 60), I 60), S0) = _
              rw [hall60]
          · have c2 := Bool.eq_false_iff.mpr c1
            have ev : (is && agP S0 i set j) = (is && (!hb set j || decide (ma S0 25 (8 * j + i) = ma S0 5 i))) := by
              unfold agP
              revert c2
              cases is <;> cases hb set j <;> cases decide (ma S0 25 (8 * (j : Int) + i) = ma S0 5 i) <;> cases allTo (agD S0 i (j : Int)) 60 <;> simp
            rw [ev]
            refine ⟨0, ?_⟩
            exact pl_run (fun _ => (b2i (is && (!hb set j || decide (ma S0 25 (8 * j + i) = ma S0 5 i))), (0 : Int32))) (fun _ => S0) 0 2000 (fun k hk => absurd hk (Nat.not_lt_zero _)) (fun k hk => absurd hk (Nat.not_lt_zero _)) ((hcond 0 (is && (!hb set j || decide (ma S0 25 (8 * j + i) = ma S0 5 i))) (by omega) (by omega)).trans (by rw [Bool.and_assoc, c2, Bool.and_false])) (by omega)
        obtain ⟨s2, e3⟩ := e3
        rw [pb_ok e3, pp_ap, gl1, I_add]; rfl
      · rw [pp_ap, gl5, d_lt (by omega) (by omega) (by omega) (by omega), decide_eq_false (by omega)]
      · exact pz_ok
    · rw [Bool.eq_false_iff.mpr c, if_pos (by decide), Bool.false_and]
      exact pz_ok (b := false)
  · rw [if_neg g, Bool.eq_false_iff.mpr g, if_pos (by decide), pb_pp, if_pos rfl]
    exact pz_ok (b := false)
