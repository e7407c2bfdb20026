/-! messages: which reply goes ahead, who is asked -/
theorem d_eq {a b : Int} (ha : -2147483648 ≤ a) (ha' : a < 2147483648) (hb : -2147483648 ≤ b) (hb' : b < 2147483648) : decide (I a = I b) = decide (a = b) := by simp only [I_inj ha ha' hb hb']
theorem d_ne {a b : Int} (ha : -2147483648 ≤ a) (ha' : a < 2147483648) (hb : -2147483648 ≤ b) (hb' : b < 2147483648) : decide (¬ I a = I b) = decide (¬ a = b) := by simp only [I_inj ha ha' hb hb']
theorem d_lt {a b : Int} (ha : -2147483648 ≤ a) (ha' : a < 2147483648) (hb : -2147483648 ≤ b) (hb' : b < 2147483648) : decide (I a < I b) = decide (a < b) := by simp only [I_lt ha ha' hb hb']
theorem d_le {a b : Int} (ha : -2147483648 ≤ a) (ha' : a < 2147483648) (hb : -2147483648 ≤ b) (hb' : b < 2147483648) : decide (I a ≤ I b) = decide (a ≤ b) := by simp only [I_le ha ha' hb hb']
theorem glm1 : (-1 : Int32) = I (-1) := by decide
theorem wr_rg {t : Int} {S : MS} (h : WR t S) : 0 ≤ mf S 29 ∧ mf S 29 ≤ 150 := by have := h.nn; omega
def later (S : MS) (k f : Int) : Bool := decide (f = -1) || decide (ma S 36 f < ma S 36 k) || (decide (ma S 36 k = ma S 36 f) && decide (ma S 39 f < ma S 39 k))
theorem e_isLater {t k f : Int} {S : MS} (h : WR t S) (h0 : 0 ≤ k) (h1 : k < mf S 29) (h2 : -1 ≤ f) (h3 : f < mf S 29) : P_X7_isLater (I k) (I f) S = some (b2i (later S k f), S) := by
  have hn := h.nn
  have hk := h.ms h0 h1
  unfold P_X7_isLater later
  rw [glm1, d_eq (by omega) (by omega) (by omega) (by omega), pb_ok (if_or1 (b := decide (ma S 36 f < ma S 36 k)) (fun q => by
    have q := of_decide_eq_false q
    have hf := h.ms (k := f) (by omega) h3
    rw [gr36 (by omega) (by omega), gr36 (by omega) (by omega), pp_ap, d_lt (by omega) (by omega) (by omega) (by omega)]))]
  rw [pb_ok (if_or1 (b := (decide (ma S 36 k = ma S 36 f) && decide (ma S 39 f < ma S 39 k))) (fun q => by
    rw [Bool.or_eq_false_iff] at q
    have q := of_decide_eq_false q.1
    have hf := h.ms (k := f) (by omega) h3
    rw [gr36 (by omega) (by omega), gr36 (by omega) (by omega), d_eq (by omega) (by omega) (by omega) (by omega)]
    exact if_and1 (fun _ => by rw [gr39 (by omega) (by omega), gr39 (by omega) (by omega), pp_ap, d_lt (by omega) (by omega) (by omega) (by omega)])))]
  rfl
/-- the last of those that go ahead of all before -/
def bestTo (S : MS) (c : Int → Bool) : Nat → Int
  | 0 => -1
  | j + 1 => if (c j && later S j (bestTo S c j)) = true then (j : Int) else bestTo S c j
theorem bestTo_r (S : MS) (c : Int → Bool) : ∀ j, bestTo S c j = -1 ∨ (0 ≤ bestTo S c j ∧ bestTo S c j < j ∧ c (bestTo S c j) = true) := by
  intro j
  induction j with
  | zero => exact Or.inl rfl
  | succ j ih =>
    unfold bestTo
    by_cases g : (c j && later S j (bestTo S c j)) = true
    · rw [if_pos g]
      rw [Bool.and_eq_true] at g
      exact Or.inr ⟨by omega, by omega, g.1⟩
    · rw [if_neg g]
      rcases ih with e | ⟨e1, e2, e3⟩
      · exact Or.inl e
      · exact Or.inr ⟨e1, by omega, e3⟩
def cK (S : MS) (i p d : Int) (k : Int) : Bool := decide (ma S 31 k = 1) && decide (¬ ma S 42 k = 0) && decide (ma S 34 k = i) && decide (ma S 32 k = p) && decide (ma S 37 k = d)
def kept (S : MS) (i p d : Int) : Int := bestTo S (cK S i p d) (mf S 29).toNat
theorem e_kept {t i p d : Int} {S : MS} (h : WR t S) (h0 : -2147483648 ≤ i) (h1 : i < 2147483648) (h2 : -2147483648 ≤ p) (h3 : p < 2147483648) (h4 : -2147483648 ≤ d) (h5 : d < 2147483648) : P_X7_kept (I i) (I p) (I d) S = some (I (kept S i p d), S) := by
  have hn := h.nn
  unfold P_X7_kept kept
  refine Eq.trans (pb_ok (pl_run (fun j => (I (bestTo S (cK S i p d) j), I j)) (fun _ => S) (mf S 29).toNat 2000 (fun j hj => ?_) (fun j hj => ?_) ?_ (by omega))) ?_
  · rw [r_gi, pp_ap, d_lt (by omega) (by omega) (by omega) (by omega), decide_eq_true (by omega)]
  · have hk := h.ms (k := (j : Int)) (by omega) (by omega)
    have hb := bestTo_r S (cK S i p d) j
    have es : bestTo S (cK S i p d) (j + 1) = if (cK S i p d j && later S j (bestTo S (cK S i p d) j)) = true then (j : Int) else bestTo S (cK S i p d) j := rfl
    rw [es]
    generalize bestTo S (cK S i p d) j = f at hb ⊢
    have hl := e_isLater (k := (j : Int)) (f := f) h (by omega) (by omega) (by omega) (by omega)
    rw [gr31 (by omega) (by omega), gl1, d_eq (by omega) (by omega) (by omega) (by omega), pb_ok (if_and1 (b := decide (¬ ma S 42 j = 0)) (fun _ => by rw [gr42 (by omega) (by omega), pp_ap, gl0, d_ne (by omega) (by omega) (by omega) (by omega)]))]
    rw [pb_ok (if_and1 (b := decide (ma S 34 j = i)) (fun _ => by rw [gr34 (by omega) (by omega), pp_ap, d_eq (by omega) (by omega) (by omega) (by omega)]))]
    rw [pb_ok (if_and1 (b := decide (ma S 32 j = p)) (fun _ => by rw [gr32 (by omega) (by omega), pp_ap, d_eq (by omega) (by omega) (by omega) (by omega)]))]
    rw [pb_ok (if_and1 (b := decide (ma S 37 j = d)) (fun _ => by rw [gr37 (by omega) (by omega), pp_ap, d_eq (by omega) (by omega) (by omega) (by omega)]))]
    rw [pb_ok (if_and1 (b := later S j f) (fun _ => by rw [pb_ok hl, pp_ap, nb]))]
    rw [show (decide (ma S 31 (j : Int) = 1) && decide (¬ ma S 42 (j : Int) = 0) && decide (ma S 34 (j : Int) = i) && decide (ma S 32 (j : Int) = p) && decide (ma S 37 (j : Int) = d)) = cK S i p d j from rfl]
    by_cases g : (cK S i p d j && later S j f) = true
    · rw [if_pos g, if_pos g, pb_pp, pp_ap, I_add]; rfl
    · rw [if_neg g, if_neg g, pb_pp, pp_ap, I_add]; rfl
  · rw [r_gi, pp_ap, d_lt (by omega) (by omega) (by omega) (by omega), decide_eq_false (by omega)]
  · rfl
def cA (S : MS) (i p d by_ : Int) (all : Bool) (k : Int) : Bool := decide (ma S 31 k = 1) && decide (ma S 34 k = i) && decide (ma S 32 k = p) && (decide (ma S 37 k = d) || decide (ma S 37 k = -1)) && (all || decide (¬ ma S 42 k = 0)) && decide (standOf S by_ d ≤ ma S 36 k)
def answers (S : MS) (i p d by_ : Int) (all : Bool) : Int := if bestTo S (cA S i p d by_ all) (mf S 29).toNat = -1 then 0 else ma S 38 (bestTo S (cA S i p d by_ all) (mf S 29).toNat)
theorem e_answers {t i p d by_ : Int} {S : MS} (all : Bool) (h : WR t S) (h0 : -2147483648 ≤ i) (h1 : i < 2147483648) (h2 : -2147483648 ≤ p) (h3 : p < 2147483648) (h4 : 0 ≤ d) (h5 : d < 60) (h6 : 0 ≤ by_) (h7 : by_ < mf S 7) : P_X7_answers (I i) (I p) (I d) (I by_) (b2i all) S = some (I (answers S i p d by_ all), S) := by
  have hn := h.nn
  unfold P_X7_answers answers
  refine Eq.trans (pb_ok (pl_run (fun j => (I (bestTo S (cA S i p d by_ all) j), I j)) (fun _ => S) (mf S 29).toNat 2000 (fun j hj => ?_) (fun j hj => ?_) ?_ (by omega))) ?_
  · rw [r_gi, pp_ap, d_lt (by omega) (by omega) (by omega) (by omega), decide_eq_true (by omega)]
  · have hk := h.ms (k := (j : Int)) (by omega) (by omega)
    have hd := h.dl h6 h7 h4 h5
    have hb := bestTo_r S (cA S i p d by_ all) j
    have es : bestTo S (cA S i p d by_ all) (j + 1) = if (cA S i p d by_ all j && later S j (bestTo S (cA S i p d by_ all) j)) = true then (j : Int) else bestTo S (cA S i p d by_ all) j := rfl
    rw [es]
    generalize bestTo S (cA S i p d by_ all) j = f at hb ⊢
    have hl := e_isLater (k := (j : Int)) (f := f) h (by omega) (by omega) (by omega) (by omega)
    rw [gr31 (by omega) (by omega), glm1, gl1, d_eq (by omega) (by omega) (by omega) (by omega), pb_ok (if_and1 (b := decide (ma S 34 j = i)) (fun _ => by rw [gr34 (by omega) (by omega), pp_ap, d_eq (by omega) (by omega) (by omega) (by omega)]))]
    rw [pb_ok (if_and1 (b := decide (ma S 32 j = p)) (fun _ => by rw [gr32 (by omega) (by omega), pp_ap, d_eq (by omega) (by omega) (by omega) (by omega)]))]
    rw [pb_ok (if_and1 (b := (decide (ma S 37 j = d) || decide (ma S 37 j = -1))) (fun _ => by
      rw [gr37 (by omega) (by omega), d_eq (by omega) (by omega) (by omega) (by omega)]
      exact if_or1 (fun _ => by rw [gr37 (by omega) (by omega), pp_ap, d_eq (by omega) (by omega) (by omega) (by omega)]))) ]
    rw [pb_ok (if_and1 (b := (all || decide (¬ ma S 42 j = 0))) (fun _ => by
      rw [nb]
      exact if_or1 (fun _ => by rw [gr42 (by omega) (by omega), pp_ap, gl0, d_ne (by omega) (by omega) (by omega) (by omega)]))) ]
    rw [pb_ok (if_and1 (b := decide (standOf S by_ d ≤ ma S 36 j)) (fun _ => by
      rw [gr36 (by omega) (by omega), pb_ok (e_stand h h6 h7 h4 h5), pp_ap, d_le (by unfold standOf; omega) (by unfold standOf; omega) (by omega) (by omega)]))]
    rw [pb_ok (if_and1 (b := later S j f) (fun _ => by rw [pb_ok hl, pp_ap, nb]))]
    rw [show (decide (ma S 31 (j : Int) = 1) && decide (ma S 34 (j : Int) = i) && decide (ma S 32 (j : Int) = p) && (decide (ma S 37 (j : Int) = d) || decide (ma S 37 (j : Int) = -1)) && (all || decide (¬ ma S 42 (j : Int) = 0)) && decide (standOf S by_ d ≤ ma S 36 (j : Int))) = cA S i p d by_ all j from rfl]
    by_cases g : (cA S i p d by_ all j && later S j f) = true
    · rw [if_pos g, if_pos g, pb_pp, pp_ap, I_add]; rfl
    · rw [if_neg g, if_neg g, pb_pp, pp_ap, I_add]; rfl
  · rw [r_gi, pp_ap, d_lt (by omega) (by omega) (by omega) (by omega), decide_eq_false (by omega)]
  · have hb := bestTo_r S (cA S i p d by_ all) (mf S 29).toNat
    generalize bestTo S (cA S i p d by_ all) (mf S 29).toNat = f at hb ⊢
    simp only
    rw [glm1, d_eq (by omega) (by omega) (by omega) (by omega)]
    by_cases g : f = -1
    · rw [if_pos (decide_eq_true g), if_pos g]; rfl
    · rw [if_neg (by rw [decide_eq_false g]; decide), if_neg g, ga38 (by omega) (by omega)]
/-- the delegate of a person whose newest reply for all says so -/
def askStep (S : MS) (i set k : Int) : Int :=
  if (hb set k && decide (¬ kept S i k (-1) = -1) && decide (ma S 38 (kept S i k (-1)) = 4) && !hb (ma S 18 (ma S 5 i)) (ma S 40 (kept S i k (-1)))) = true then orb set (ma S 40 (kept S i k (-1))) else set
def askRow (S : MS) (i set : Int) : Nat → Int
  | 0 => set
  | j + 1 => askStep S i (askRow S i set j) j
def askAll (S : MS) (i set : Int) : Nat → Int
  | 0 => set
  | j + 1 => askRow S i (askAll S i set j) 5
def asked (S : MS) (i : Int) : Int := askAll S i (ma S 17 (ma S 5 i)) 5
theorem kept_r {t i p d : Int} {S : MS} (h : WR t S) : kept S i p d = -1 ∨ (0 ≤ kept S i p d ∧ kept S i p d < mf S 29 ∧ cK S i p d (kept S i p d) = true) := by
  have hn := h.nn
  have := bestTo_r S (cK S i p d) (mf S 29).toNat
  unfold kept
  rcases this with e | ⟨e1, e2, e3⟩
  · exact Or.inl e
  · exact Or.inr ⟨e1, by omega, e3⟩
theorem askStep_r {t i set k : Int} {S : MS} (h : WR t S) (h0 : 0 ≤ set) (h1 : set < 32) : 0 ≤ askStep S i set k ∧ askStep S i set k < 32 := by
  have hk := kept_r (i := i) (p := k) (d := -1) h
  unfold askStep
  split
  next g =>
    simp only [Bool.and_eq_true, decide_eq_true_eq] at g
    have hm := h.ms (k := kept S i k (-1)) (by omega) (by omega)
    exact (set_r h0 h1 (by omega) (by omega)).1
  next => exact ⟨h0, h1⟩
theorem askRow_r {t i set : Int} {S : MS} (h : WR t S) (h0 : 0 ≤ set) (h1 : set < 32) : ∀ j, 0 ≤ askRow S i set j ∧ askRow S i set j < 32 := by
  intro j
  induction j with
  | zero => exact ⟨h0, h1⟩
  | succ j ih => exact askStep_r h ih.1 ih.2
theorem askAll_r {t i set : Int} {S : MS} (h : WR t S) (h0 : 0 ≤ set) (h1 : set < 32) : ∀ j, 0 ≤ askAll S i set j ∧ askAll S i set j < 32 := by
  intro j
  induction j with
  | zero => exact ⟨h0, h1⟩
  | succ j ih => exact askRow_r h ih.1 ih.2 5
theorem hb_d (x p : Int) : decide ((I x >>> (I p &&& 31)) &&& (1 : Int32) = 1) = hb x p := rfl
theorem hb_d0 (x p : Int) : decide ((I x >>> (I p &&& 31)) &&& (1 : Int32) = 0) = !hb x p := by
  rw [gl0, gl1, gl31]
  simp only [hb_eq0]
  cases hb x p <;> rfl
theorem e_asked {t i : Int} {S : MS} (h : WR t S) (hi : 0 ≤ i) (hi' : i < mf S 3) : P_X7_asked (I i) S = some (I (asked S i), S) := by
  have hn := h.nn
  have hm := h.mt hi hi'
  have hv := h.vs hm.2.1.1 hm.2.1.2
  unfold P_X7_asked asked
  rw [gr5 (by omega) (by omega), gr17 (by omega) (by omega)]
  refine Eq.trans (pb_ok (pl_run (fun j => (I (askAll S i (ma S 17 (ma S 5 i)) j), I j)) (fun _ => S) 5 2000 (fun j hj => ?_) (fun j hj => ?_) ?_ (by omega))) ?_
  · rw [pp_ap, gl5, d_lt (by omega) (by omega) (by omega) (by omega), decide_eq_true (by omega)]
  · have hr := askAll_r (i := i) h hv.2.2.2.2.2.2.2.2.2.1.1 hv.2.2.2.2.2.2.2.2.2.1.2 j
    show pb _ _ S = some ((I (askRow S i (askAll S i (ma S 17 (ma S 5 i)) j) 5), I ((j : Int) + 1)), S)
    generalize askAll S i (ma S 17 (ma S 5 i)) j = set at hr ⊢
    refine Eq.trans (pb_ok (pl_run (fun j => (I (askRow S i set j), I j)) (fun _ => S) 5 2000 (fun k hk => ?_) (fun k hk => ?_) ?_ (by omega))) ?_
    · rw [pp_ap, gl5, d_lt (by omega) (by omega) (by omega) (by omega), decide_eq_true (by omega)]
    · have hr2 := askRow_r (i := i) h hr.1 hr.2 k
      show pb _ _ S = some ((I (askStep S i (askRow S i set k) k), I ((k : Int) + 1)), S)
      generalize askRow S i set k = s2 at hr2 ⊢
      have hk := kept_r (i := i) (p := k) (d := -1) h
      have hke := e_kept (i := i) (p := (k : Int)) (d := -1) h (by omega) (by omega) (by omega) (by omega) (by omega) (by omega)
      unfold askStep
      simp only
      rw [hb_d]
      generalize kept S i k (-1) = by_ at hk hke ⊢
      by_cases c1 : hb s2 k = true
      · rw [c1, if_pos rfl, glm1, pb_ok hke, d_ne (by omega) (by omega) (by omega) (by omega)]
        by_cases c2 : by_ = -1
        · rw [decide_eq_false (show ¬ ¬ by_ = -1 by omega), if_neg (by decide), pb_pp, if_neg (by decide), pb_pp, if_neg (by decide), pb_pp, pp_ap, gl0, gl1, I_add, if_neg (by simp)]
          rw [show I s2 ||| I 0 = I s2 from by rw [← gl0]; exact Int32.or_zero]
        · have hms := h.ms (k := by_) (by omega) (by omega)
          rw [decide_eq_true (show ¬ by_ = -1 from c2), if_pos rfl, pb_assoc, gr38 (by omega) (by omega), pb_pp, gl4, d_eq (by omega) (by omega) (by omega) (by omega)]
          by_cases c3 : ma S 38 by_ = 4
          · rw [decide_eq_true c3, if_pos rfl, pb_assoc, gr5 (by omega) (by omega), pb_assoc, gr18 (by omega) (by omega), pb_assoc, gr40 (by omega) (by omega), pb_pp, hb_d0]
            by_cases c4 : hb (ma S 18 (ma S 5 i)) (ma S 40 by_) = true
            · rw [c4, if_neg (by decide), pb_pp, pp_ap, gl0, gl1, I_add, if_neg (by simp)]
              rw [show I s2 ||| I 0 = I s2 from by rw [← gl0]; exact Int32.or_zero]
            · rw [Bool.eq_false_iff.mpr c4, if_pos (by decide), pb_assoc, gr40 (by omega) (by omega), pb_pp, pp_ap, gl1, I_add, if_pos (by decide)]
              exact congrArg (fun x => some ((x, I (↑k + 1)), S)) (I_orb s2 (ma S 40 by_))
          · rw [decide_eq_false c3, if_neg (by decide), pb_pp, if_neg (by decide), pb_pp, pp_ap, gl0, gl1, I_add, if_neg (by simp)]
            rw [show I s2 ||| I 0 = I s2 from by rw [← gl0]; exact Int32.or_zero]
      · rw [Bool.eq_false_iff.mpr c1, if_neg (by decide), pb_pp, if_neg (by decide), pb_pp, if_neg (by decide), pb_pp, if_neg (by decide), pb_pp, pp_ap, gl0, gl1, I_add, if_neg (by simp)]
        rw [show I s2 ||| I 0 = I s2 from by rw [← gl0]; exact Int32.or_zero]
    · rw [pp_ap, gl5, d_lt (by omega) (by omega) (by omega) (by omega), decide_eq_false (by omega)]
    · rw [pp_ap, gl1, I_add]
  · rw [pp_ap, gl5, d_lt (by omega) (by omega) (by omega) (by omega), decide_eq_false (by omega)]
  · rfl
/-! the same, whatever was thrown last -/
theorem later_ma {S S' : MS} (h : ma S' = ma S) (k f : Int) : later S' k f = later S k f := by unfold later; rw [h]
theorem bestTo_ma {S S' : MS} {c c' : Int → Bool} (h : ma S' = ma S) (hc : ∀ k, c' k = c k) : ∀ j, bestTo S' c' j = bestTo S c j := by
  intro j
  induction j with
  | zero => rfl
  | succ j ih => unfold bestTo; rw [ih, hc, later_ma h]
theorem kept_ma {S S' : MS} (h : ma S' = ma S) (h2 : mf S' 29 = mf S 29) (i p d : Int) : kept S' i p d = kept S i p d := by
  unfold kept
  rw [h2]
  exact bestTo_ma h (fun k => by unfold cK; rw [h]) _
theorem answers_ma {S S' : MS} (h : ma S' = ma S) (h2 : mf S' 29 = mf S 29) (i p d b : Int) (all : Bool) : answers S' i p d b all = answers S i p d b all := by
  unfold answers
  rw [h2, bestTo_ma (c := cA S i p d b all) h (fun k => by unfold cA standOf; rw [h]), h]
theorem askStep_ma {S S' : MS} (h : ma S' = ma S) (h2 : mf S' 29 = mf S 29) (i s k : Int) : askStep S' i s k = askStep S i s k := by
  unfold askStep; rw [kept_ma h h2, h]
theorem askRow_ma {S S' : MS} (h : ma S' = ma S) (h2 : mf S' 29 = mf S 29) (i s : Int) : ∀ j, askRow S' i s j = askRow S i s j := by
  intro j
  induction j with
  | zero => rfl
  | succ j ih => unfold askRow; rw [ih, askStep_ma h h2]
theorem askAll_ma {S S' : MS} (h : ma S' = ma S) (h2 : mf S' 29 = mf S 29) (i s : Int) : ∀ j, askAll S' i s j = askAll S i s j := by
  intro j
  induction j with
  | zero => rfl
  | succ j ih => unfold askAll; rw [ih, askRow_ma h h2]
theorem asked_ma {S S' : MS} (h : ma S' = ma S) (h2 : mf S' 29 = mf S 29) (i : Int) : asked S' i = asked S i := by
  unfold asked; rw [askAll_ma h h2, h]
