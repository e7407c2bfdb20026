/-! zones' calls; lines -/
def gI (o : Int) : Bool := decide (-12 ≤ o ∧ o ≤ 12)
theorem glm12 : (-12 : Int32) = I (-12) := by decide
theorem e_setOffset {t z o : Int} {S : MS} (h : WR t S) (h0 : -2147483648 ≤ z) (h1 : z < 2147483648) (h2 : -2147483648 ≤ o) (h3 : o < 2147483648) : P_X7_setOffset (I z) (I o) S = if (gZ z && gI o && true) = true then some (I (ma S 0 z), seta (setf S 45 0) 0 z o) else some (I 0, setf S 45 (gc (gZ z) (gI o) true)) := by
  unfold P_X7_setOffset
  rw [e_isZone h0 h1, pb_pp, glm12, gl12, e_in h2 h3 (by omega) (by omega) (by omega) (by omega), pb_pp, show decide (0 ≤ z ∧ z ≤ 2) = gZ z from rfl, show decide (-12 ≤ o ∧ o ≤ 12) = gI o from rfl, pb_ok (e_goesL _ _ _), nb]
  by_cases g : (gZ z && gI o && true) = true
  · rw [if_pos g, gc0 g, g, if_neg (by decide)]
    simp only [Bool.and_eq_true] at g
    have g1 : 0 ≤ z ∧ z ≤ 2 := of_decide_eq_true g.1.1
    rw [gr0 (by omega) (by omega), gw0 (by omega) (by omega) (by omega) (by omega), pp_ap]; rfl
  · rw [if_neg g, Bool.eq_false_iff.mpr g, if_pos (by decide)]; rfl
def gSu (a b : Int) : Bool := decide (a = -1) || (decide (0 ≤ a ∧ a ≤ 59) && decide (a + 1 ≤ b ∧ b ≤ 60))
theorem e_setSummer {t z a b : Int} {S : MS} (h : WR t S) (h0 : -2147483648 ≤ z) (h1 : z < 2147483648) (h2 : -2147483648 ≤ a) (h3 : a < 2147483648) (h4 : -2147483648 ≤ b) (h5 : b < 2147483648) : P_X7_setSummer (I z) (I a) (I b) S = if (gZ z && gSu a b && true) = true then some (I (ma S 1 z), seta (seta (setf S 45 0) 1 z a) 2 z b) else some (I 0, setf S 45 (gc (gZ z) (gSu a b) true)) := by
  unfold P_X7_setSummer
  rw [e_isZone h0 h1, pb_pp, glm1, d_eq (by omega) (by omega) (by omega) (by omega)]
  rw [pb_ok (if_or1 (b := (decide (0 ≤ a ∧ a ≤ 59) && decide (a + 1 ≤ b ∧ b ≤ 60))) (fun _ => by
    rw [e_isDay h2 h3, pb_pp, nb]
    exact if_and1 (fun q => by
      have q := of_decide_eq_true q
      rw [gl1, I_add, gl60, e_in h4 h5 (by omega) (by omega) (by omega) (by omega), pb_pp, nb, pp_ap])))]
  rw [show (decide (a = -1) || (decide (0 ≤ a ∧ a ≤ 59) && decide (a + 1 ≤ b ∧ b ≤ 60))) = gSu a b from rfl, show decide (0 ≤ z ∧ z ≤ 2) = gZ z from rfl, pb_ok (e_goesL _ _ _), nb]
  by_cases g : (gZ z && gSu a b && true) = true
  · rw [if_pos g, gc0 g, g, if_neg (by decide)]
    simp only [Bool.and_eq_true] at g
    have g1 : 0 ≤ z ∧ z ≤ 2 := of_decide_eq_true g.1.1
    rw [gr1 (by omega) (by omega), gw1 (by omega) (by omega) (by omega) (by omega), gw2 (by omega) (by omega) (by omega) (by omega), pp_ap]; rfl
  · rw [if_neg g, Bool.eq_false_iff.mpr g, if_pos (by decide)]; rfl
def gH2 (w : Int) : Bool := decide (-100 ≤ w ∧ w ≤ 2000)
theorem e_common {t z w : Int} {S : MS} (h : WR t S) (h0 : -2147483648 ≤ z) (h1 : z < 2147483648) (h2 : -2147483648 ≤ w) (h3 : w < 2147483648) : P_X7_common (I z) (I w) S = if (gZ z && gH2 w && true) = true then some (I (sCom S z w), setf S 45 0) else some (I 0, setf S 45 (gc (gZ z) (gH2 w) true)) := by
  unfold P_X7_common
  rw [e_isZone h0 h1, pb_pp, show (-100 : Int32) = I (-100) from by decide, gl2000, e_in h2 h3 (by omega) (by omega) (by omega) (by omega), pb_pp, show decide (0 ≤ z ∧ z ≤ 2) = gZ z from rfl, show decide (-100 ≤ w ∧ w ≤ 2000) = gH2 w from rfl, pb_ok (e_goesL _ _ _), nb]
  by_cases g : (gZ z && gH2 w && true) = true
  · rw [if_pos g, if_pos g, gc0 g]
    simp only [Bool.and_eq_true] at g
    have g1 : 0 ≤ z ∧ z ≤ 2 := of_decide_eq_true g.1.1
    have g2 : -100 ≤ w ∧ w ≤ 2000 := of_decide_eq_true g.1.2
    exact e_commonOf (wr_thr 0 h) g1.1 (by omega) (by omega) (by omega)
  · rw [if_neg g, if_neg g]; rfl
theorem e_local {t z w : Int} {S : MS} (h : WR t S) (h0 : -2147483648 ≤ z) (h1 : z < 2147483648) (h2 : -2147483648 ≤ w) (h3 : w < 2147483648) : P_X7_local (I z) (I w) S = if (gZ z && gH2 w && true) = true then some (I (sLoc S z w), setf S 45 0) else some (I 0, setf S 45 (gc (gZ z) (gH2 w) true)) := by
  unfold P_X7_local
  rw [e_isZone h0 h1, pb_pp, show (-100 : Int32) = I (-100) from by decide, gl2000, e_in h2 h3 (by omega) (by omega) (by omega) (by omega), pb_pp, show decide (0 ≤ z ∧ z ≤ 2) = gZ z from rfl, show decide (-100 ≤ w ∧ w ≤ 2000) = gH2 w from rfl, pb_ok (e_goesL _ _ _), nb]
  by_cases g : (gZ z && gH2 w && true) = true
  · rw [if_pos g, if_pos g, gc0 g]
    simp only [Bool.and_eq_true] at g
    have g1 : 0 ≤ z ∧ z ≤ 2 := of_decide_eq_true g.1.1
    have g2 : -100 ≤ w ∧ w ≤ 2000 := of_decide_eq_true g.1.2
    exact e_localOf (wr_thr 0 h) g1.1 (by omega) (by omega) (by omega)
  · rw [if_neg g, if_neg g]; rfl
/-! lines -/
def KW (k : Int) : List Int := if k = 0 then [114, 101, 113, 117, 101, 115, 116] else if k = 1 then [114, 101, 112, 108, 121] else [112, 114, 111, 112, 111, 115, 97, 108]
def AW (a : Int) : List Int := if a = 1 then [97, 99, 99, 101, 112, 116, 101, 100] else if a = 2 then [116, 101, 110, 116, 97, 116, 105, 118, 101] else if a = 3 then [100, 101, 99, 108, 105, 110, 101, 100] else [100, 101, 108, 101, 103, 97, 116, 101, 100]
def dg (v : Int) : List Int := if v < 10 then [48 + v] else if v < 100 then [48 + v / 10, 48 + v % 10] else [48 + v / 100, 48 + v / 10 % 10, 48 + v % 10]
def tailL (S : MS) (k : Int) : List Int := if ma S 31 k = 1 then 32 :: AW (ma S 38 k) else []
def lineL (S : MS) (k : Int) : List Int := KW (ma S 31 k) ++ ([32, 97 + ma S 32 k, 97 + ma S 33 k, 32, 48 + ma S 34 k, 32] ++ (dg (ma S 36 k) ++ tailL S k))
def kwW (k : Int) : Int64 := if k = 0 then 22118319282 else if k = 1 then 26624178 else 414044405328
def awW (a : Int) : Int64 := if a = 1 then 143495695457 else if a = 2 then 6263808866484 else if a = 3 then 143287258276 else 4591361110180
def lcond (W : Int64) (j : Nat) : Bool := decide (¬ (W >>> (((5 : Int32) * I j).toInt64 &&& 63)) = (0 : Int64))
def letC (W : Int64) (j : Nat) : Int32 := ((((97 : Int32) + ((W >>> (((5 : Int32) * I j).toInt64 &&& 63)) &&& (31 : Int64)).toInt32) - (1 : Int32)).toUInt32 % 65536).toInt32
theorem e_letters {W : Int64} (n : Nat) (hn : n < 2000) (h : ∀ j, j < n → lcond W j = true) (h2 : lcond W n = false) (S : MS) : P_X7_letters W S = some (I n, S) := by
  unfold P_X7_letters
  refine Eq.trans (pb_ok (pl_run (fun j => I j) (fun _ => S) n 2000 (fun j hj => ?_) (fun j hj => ?_) ?_ hn)) rfl
  · show some (lcond W j, S) = _
    rw [h j hj]
  · rw [pp_ap, gl1, I_add]; rfl
  · show some (lcond W n, S) = _
    rw [h2]
theorem e_letter {W : Int64} {j : Nat} {c : Int} (h : letC W j = I c) (h0 : 0 ≤ c) (h1 : c < 65536) (S : MS) : P_X7_letter W (I j) S = some (I c, S) := by
  show (if 0 ≤ (letC W j).toInt ∧ (letC W j).toInt < 65536 then some (letC W j, S) else none) = _
  rw [h, toInt_I (by omega) (by omega), if_pos ⟨h0, h1⟩]
theorem let_kw (k : Int) (S : MS) : P_X7_letters (kwW k) S = some (I (KW k).length, S) := by
  unfold kwW KW
  split
  · exact e_letters 7 (by decide) (by decide +kernel) (by decide +kernel) S
  · split
    · exact e_letters 5 (by decide) (by decide +kernel) (by decide +kernel) S
    · exact e_letters 8 (by decide) (by decide +kernel) (by decide +kernel) S
theorem let_aw (a : Int) (S : MS) : P_X7_letters (awW a) S = some (I (AW a).length, S) := by
  unfold awW AW
  split
  · exact e_letters 8 (by decide) (by decide +kernel) (by decide +kernel) S
  · split
    · exact e_letters 9 (by decide) (by decide +kernel) (by decide +kernel) S
    · split
      · exact e_letters 8 (by decide) (by decide +kernel) (by decide +kernel) S
      · exact e_letters 9 (by decide) (by decide +kernel) (by decide +kernel) S
theorem let_0 (S : MS) : P_X7_letters 0 S = some (I (0 : Nat), S) := e_letters 0 (by decide) (fun j hj => absurd hj (Nat.not_lt_zero _)) (by decide +kernel) S
theorem ch_kw (k : Int) (j : Nat) (hj : j < (KW k).length) (S : MS) : P_X7_letter (kwW k) (I j) S = some (I ((KW k).getD j 0), S) := by
  unfold kwW
  unfold KW at hj ⊢
  have key : ∀ (W : Int64) (l : List Int), (∀ i, i < l.length → letC W i = I (l.getD i 0) ∧ 0 ≤ l.getD i 0 ∧ l.getD i 0 < 65536) → j < l.length → P_X7_letter W (I j) S = some (I (l.getD j 0), S) := fun W l hh h2 => e_letter (hh j h2).1 (hh j h2).2.1 (hh j h2).2.2 S
  split at hj
  · rename_i c; rw [if_pos c, if_pos c]; exact key _ _ (by decide +kernel) hj
  · rename_i c
    split at hj
    · rename_i d; rw [if_neg c, if_neg c, if_pos d, if_pos d]; exact key _ _ (by decide +kernel) hj
    · rename_i d; rw [if_neg c, if_neg c, if_neg d, if_neg d]; exact key _ _ (by decide +kernel) hj
theorem ch_aw (a : Int) (j : Nat) (hj : j < (AW a).length) (S : MS) : P_X7_letter (awW a) (I j) S = some (I ((AW a).getD j 0), S) := by
  unfold awW
  unfold AW at hj ⊢
  have key : ∀ (W : Int64) (l : List Int), (∀ i, i < l.length → letC W i = I (l.getD i 0) ∧ 0 ≤ l.getD i 0 ∧ l.getD i 0 < 65536) → j < l.length → P_X7_letter W (I j) S = some (I (l.getD j 0), S) := fun W l hh h2 => e_letter (hh j h2).1 (hh j h2).2.1 (hh j h2).2.2 S
  split at hj
  · rename_i c; rw [if_pos c, if_pos c]; exact key _ _ (by decide +kernel) hj
  · rename_i c
    split at hj
    · rename_i d; rw [if_neg c, if_neg c, if_pos d, if_pos d]; exact key _ _ (by decide +kernel) hj
    · rename_i d
      split at hj
      · rename_i e; rw [if_neg c, if_neg c, if_neg d, if_neg d, if_pos e, if_pos e]; exact key _ _ (by decide +kernel) hj
      · rename_i e; rw [if_neg c, if_neg c, if_neg d, if_neg d, if_neg e, if_neg e]; exact key _ _ (by decide +kernel) hj
theorem e_kindWord {t k : Int} {S : MS} (h : WR t S) (h0 : 0 ≤ k) (h1 : k < mf S 29) : P_X7_kindWord (I k) S = some (kwW (ma S 31 k), S) := by
  have hn := h.nn
  have hk := h.ms h0 h1
  unfold P_X7_kindWord kwW
  rw [gr31 h0 (by omega), gl0, gl1, d_eq (by omega) (by omega) (by omega) (by omega)]
  by_cases a : ma S 31 k = 0
  · rw [if_pos (decide_eq_true a), if_pos a]; rfl
  · rw [if_neg (by rw [decide_eq_false a]; decide), if_neg a, gr31 h0 (by omega), d_eq (by omega) (by omega) (by omega) (by omega)]
    by_cases b : ma S 31 k = 1
    · rw [if_pos (decide_eq_true b), if_pos b]; rfl
    · rw [if_neg (by rw [decide_eq_false b]; decide), if_neg b]; rfl
theorem e_answerWord {t k : Int} {S : MS} (h : WR t S) (h0 : 0 ≤ k) (h1 : k < mf S 29) : P_X7_answerWord (I k) S = some ((if ma S 31 k = 1 then awW (ma S 38 k) else 0), S) := by
  have hn := h.nn
  have hk := h.ms h0 h1
  unfold P_X7_answerWord awW
  rw [gr31 h0 (by omega), gl1, gl2, gl3, d_ne (by omega) (by omega) (by omega) (by omega)]
  by_cases a : ma S 31 k = 1
  · rw [if_neg (by rw [decide_eq_false (by omega)]; decide), if_pos a, gr38 h0 (by omega), d_eq (by omega) (by omega) (by omega) (by omega), d_eq (by omega) (by omega) (by omega) (by omega), d_eq (by omega) (by omega) (by omega) (by omega)]
    by_cases b : ma S 38 k = 1
    · rw [if_pos (decide_eq_true b), if_pos b]; rfl
    · rw [if_neg (by rw [decide_eq_false b]; decide), if_neg b]
      by_cases c : ma S 38 k = 2
      · rw [if_pos (decide_eq_true c), if_pos c]; rfl
      · rw [if_neg (by rw [decide_eq_false c]; decide), if_neg c]
        by_cases d : ma S 38 k = 3
        · rw [if_pos (decide_eq_true d), if_pos d]; rfl
        · rw [if_neg (by rw [decide_eq_false d]; decide), if_neg d]; rfl
  · rw [if_pos (decide_eq_true a), if_neg a]; rfl
theorem e_digits {v : Int} (h0 : 0 ≤ v) (h1 : v < 1000) : P_X7_digits (I v) = pp (I (dg v).length) := by
  unfold P_X7_digits dg
  rw [gl10, gl100, d_lt (by omega) (by omega) (by omega) (by omega), d_lt (by omega) (by omega) (by omega) (by omega)]
  by_cases a : v < 10
  · rw [if_pos (decide_eq_true a), if_pos a, gl1]; rfl
  · rw [if_neg (by rw [decide_eq_false a]; decide), if_neg a]
    by_cases b : v < 100
    · rw [if_pos (decide_eq_true b), if_pos b, gl2]; rfl
    · rw [if_neg (by rw [decide_eq_false b]; decide), if_neg b, gl3]; rfl
theorem KW_len (k : Int) : 5 ≤ (KW k).length ∧ (KW k).length ≤ 8 := by
  unfold KW; split
  · exact ⟨by decide, by decide⟩
  · split
    · exact ⟨by decide, by decide⟩
    · exact ⟨by decide, by decide⟩
theorem AW_len (k : Int) : 8 ≤ (AW k).length ∧ (AW k).length ≤ 9 := by
  unfold AW; split
  · exact ⟨by decide, by decide⟩
  · split
    · exact ⟨by decide, by decide⟩
    · split
      · exact ⟨by decide, by decide⟩
      · exact ⟨by decide, by decide⟩
theorem dg_len (v : Int) : 1 ≤ (dg v).length ∧ (dg v).length ≤ 3 := by
  unfold dg; split
  · exact ⟨by show 1 ≤ 1; decide, by show 1 ≤ 3; decide⟩
  · split
    · exact ⟨by show 1 ≤ 2; decide, by show 2 ≤ 3; decide⟩
    · exact ⟨by show 1 ≤ 3; decide, by show 3 ≤ 3; decide⟩
theorem lineL_len (S : MS) (k : Int) : ((lineL S k).length : Int) = (KW (ma S 31 k)).length + 6 + (dg (ma S 36 k)).length + (tailL S k).length := by
  unfold lineL
  simp only [List.length_append, List.length_cons, List.length_nil]
  omega
theorem e_lineOf {t k : Int} {S : MS} (h : WR t S) (h0 : 0 ≤ k) (h1 : k < mf S 29) : P_X7_lineOf (I k) S = some (I (lineL S k).length, S) := by
  have hn := h.nn
  have hk := h.ms h0 h1
  have l1 := KW_len (ma S 31 k)
  have l2 := AW_len (ma S 38 k)
  have l3 := dg_len (ma S 36 k)
  rw [lineL_len]
  unfold P_X7_lineOf
  rw [pb_ok (e_answerWord h h0 h1)]
  have e1 : P_X7_letters (if ma S 31 k = 1 then awW (ma S 38 k) else 0) S = some (I (if ma S 31 k = 1 then ((AW (ma S 38 k)).length : Int) else 0), S) := by
    by_cases a : ma S 31 k = 1
    · rw [if_pos a, if_pos a]; exact let_aw _ S
    · rw [if_neg a, if_neg a]; exact let_0 S
  rw [pb_ok e1, pb_ok (e_kindWord h h0 h1), pb_ok (let_kw _ S), gr36 h0 (by omega), e_digits (by omega) (by omega), pb_pp]
  unfold tailL
  by_cases a : ma S 31 k = 1
  · rw [if_pos a, if_pos a, gl0, d_eq (by omega) (by omega) (by omega) (by omega), if_neg (by rw [decide_eq_false (by omega)]; decide), pb_pp, pp_ap, gl1, gl6, I_add, I_add, I_add, I_add]
    congr 3
    simp only [List.length_cons]
    omega
  · rw [if_neg a, if_neg a, gl0, d_eq (by omega) (by omega) (by omega) (by omega), if_pos (by decide), pb_pp, pp_ap, gl6, I_add, I_add, I_add]
    congr 3
theorem e_lineLength {t k : Int} {S : MS} (h : WR t S) (h0 : -2147483648 ≤ k) (h1 : k < 2147483648) : P_X7_lineLength (I k) S = if gK S k = true then some (I (lineL S k).length, setf S 45 0) else some (I 0, setf S 45 1) := by
  unfold P_X7_lineLength
  rw [pb_ok (mb2 h h0 h1), pb_ok (e_goes1L _ _), nb]
  by_cases g : gK S k = true
  · have g1 : 0 ≤ k ∧ k < mf S 29 := of_decide_eq_true g
    rw [if_pos g, g, if_pos (by decide)]
    exact e_lineOf (wr_thr 0 h) g1.1 g1.2
  · rw [if_neg g, Bool.eq_false_iff.mpr g, if_neg (by decide)]; rfl
theorem pch_I {c : Int} {S : MS} (h0 : 0 ≤ c) (h1 : c < 65536) : pch (I c) S = some (I c, S) := by
  show (if 0 ≤ (I c).toInt ∧ (I c).toInt < 65536 then some (I c, S) else none) = _
  rw [toInt_I (by omega) (by omega), if_pos ⟨h0, h1⟩]
theorem ch_dec : ∀ c, c < 256 → ((I (c : Nat)).toUInt32 % 65536).toInt32 = I (c : Nat) := by decide +kernel
theorem ch_I {c : Int} (h0 : 0 ≤ c) (h1 : c < 256) : ((I c).toUInt32 % 65536).toInt32 = I c := by
  obtain ⟨a, rfl⟩ := Int.eq_ofNat_of_zero_le h0
  exact ch_dec a (by omega)
def restL (S : MS) (k : Int) : List Int := [32, 97 + ma S 32 k, 97 + ma S 33 k, 32, 48 + ma S 34 k, 32] ++ (dg (ma S 36 k) ++ tailL S k)
