/-! marks -/
theorem cnt_add {c c1 c2 : Int → Bool} : ∀ n : Nat, (∀ k : Nat, k < n → (if c k = true then (1 : Int) else 0) = (if c1 k = true then 1 else 0) + (if c2 k = true then 1 else 0)) → cnt c n = cnt c1 n + cnt c2 n := by
  intro n
  induction n with
  | zero => intro _; rfl
  | succ n ih =>
    intro h
    have a := ih (fun k hk => h k (by omega))
    have b := h n (by omega)
    rw [cnt_s, cnt_s, cnt_s]; omega
theorem cnt_one {c : Int → Bool} : ∀ n : Nat, (∀ j k : Nat, j < k → k < n → c j = true → c k = true → False) → cnt c n ≤ 1 := by
  intro n
  induction n with
  | zero => intro _; show (0 : Int) ≤ 1; omega
  | succ n ih =>
    intro h
    rw [cnt_s]
    have a := ih (fun j k h1 h2 => h j k h1 (by omega))
    by_cases g : c n = true
    · rw [if_pos g]
      have : cnt c n = 0 := cnt_none n (fun d d0 d1 => by
        cases q : c d
        · rfl
        · exact (h d.toNat n (by omega) (by omega) (by rw [Int.toNat_of_nonneg d0]; exact q) g).elim)
      omega
    · rw [if_neg g]; omega
theorem cnt_some {c : Int → Bool} : ∀ n : Nat, 0 < cnt c n → ∃ k : Nat, k < n ∧ c k = true := by
  intro n h
  obtain ⟨d, h1, -, h3, -⟩ := nth_is c (by decide : (0 : Int) ≤ 0) n h
  exact ⟨d, h1, h3⟩
theorem cnt_pos {c : Int → Bool} {k n : Nat} (hk : k < n) (h : c k = true) : 0 < cnt c n := by
  have a := cnt_le c (show k + 1 ≤ n by omega)
  rw [cnt_s, if_pos h] at a
  have := (cnt_r c k).1
  omega
/-- steps of one at most reach every number -/
theorem steps_to {f : Nat → Int} (h0 : f 0 ≤ 0) (hs : ∀ s, f (s + 1) ≤ f s + 1) {j : Int} (j0 : 0 ≤ j) : ∀ T : Nat, j < f T → ∃ s, s < T ∧ f s = j ∧ f (s + 1) = j + 1 := by
  intro T
  induction T with
  | zero => intro h; omega
  | succ T ih =>
    intro h
    rcases (by omega : j < f T ∨ f T ≤ j) with q | q
    · obtain ⟨s, h1, h2⟩ := ih q
      exact ⟨s, by omega, h2⟩
    · have := hs T
      exact ⟨T, by omega, by omega, by omega⟩
theorem last_is {c : Int → Bool} : ∀ n k : Nat, k < n → c k = true → ∃ m : Nat, m < n ∧ lastTo c n = m ∧ c m = true := by
  intro n
  induction n with
  | zero => intro k h; omega
  | succ n ih =>
    intro k hk h
    have e : lastTo c (n + 1) = if c n = true then (n : Int) else lastTo c n := rfl
    by_cases g : c n = true
    · exact ⟨n, by omega, by rw [e, if_pos g], g⟩
    · obtain ⟨m, h1, h2, h3⟩ := ih k (by
        rcases (by omega : k < n ∨ k = n) with q | q
        · exact q
        · subst q; exact absurd h g) h
      exact ⟨m, by omega, by rw [e, if_neg g]; exact h2, h3⟩
theorem hor8t : ∀ x, x < 256 → ∀ y, y < 8 → (0 ≤ orb ((x : Nat) : Int) ((y : Nat) : Int) ∧ orb ((x : Nat) : Int) ((y : Nat) : Int) < 256) ∧ ∀ z, z < 8 → hb (orb ((x : Nat) : Int) ((y : Nat) : Int)) ((z : Nat) : Int) = (hb ((x : Nat) : Int) ((z : Nat) : Int) || decide (z = y)) := by decide +kernel
theorem hb08t : ∀ z, z < 8 → hb 0 ((z : Nat) : Int) = false := by decide +kernel
section C95
variable {S : MS} {p a t : Int}
/-- the place of an entry -/
theorem chg_at (hs : SI t S) (p0 : 0 ≤ p) (p1 : p < 5) (a0 : 0 ≤ a) {j : Int} (j0 : 0 ≤ j) (j1 : j < cnt (abC S p a) (mf S 3).toNat) : ∃ m : Nat, m < (mf S 3).toNat ∧ lastTo (chgC S p a j) (mf S 3).toNat = m ∧ chgC S p a j m = true := by
  have w := hs.wr
  have nn := w.nn
  have de := hs.de
  have ent : ∀ k : Nat, k < (mf S 3).toNat → 0 ≤ ma S 26 (8 * p + k) ∧ ma S 26 (8 * p + k) ≤ ma S 27 p := fun k hk => (w.cp p0 p1 (by omega : (0 : Int) ≤ k) (by omega)).2
  -- how many lie above a and below a number
  let c : Nat → Int → Bool := fun s k => decide (a < ma S 26 (8 * p + k)) && decide (ma S 26 (8 * p + k) < s)
  let f : Nat → Int := fun s => cnt (c s) (mf S 3).toNat
  have f0 : f 0 ≤ 0 := by
    have : f 0 = 0 := cnt_none _ (fun d d0 d1 => by
      have := ent d.toNat (by omega)
      rw [Int.toNat_of_nonneg d0] at this
      show (_ && decide (ma S 26 (8 * p + d) < ((0 : Nat) : Int))) = false
      rw [decide_eq_false (by omega : ¬ ma S 26 (8 * p + d) < ((0 : Nat) : Int)), Bool.and_false])
    omega
  have one : ∀ s : Nat, cnt (fun k => decide (a < ma S 26 (8 * p + k)) && decide (ma S 26 (8 * p + k) = s)) (mf S 3).toNat ≤ 1 := fun s => cnt_one _ (fun j k h1 h2 h3 h4 => by
    simp only [Bool.and_eq_true, decide_eq_true_eq] at h3 h4
    have := de p j k p0 p1 (by omega) (by omega) (by omega) (by omega) (by omega) (by omega)
    omega)
  have stp : ∀ s : Nat, f (s + 1) = f s + cnt (fun k => decide (a < ma S 26 (8 * p + k)) && decide (ma S 26 (8 * p + k) = s)) (mf S 3).toNat := fun s => cnt_add _ (fun k hk => by
    show (if (decide (a < ma S 26 (8 * p + k)) && decide (ma S 26 (8 * p + k) < ((s + 1 : Nat) : Int))) = true then (1 : Int) else 0) = (if (decide (a < ma S 26 (8 * p + k)) && decide (ma S 26 (8 * p + k) < (s : Int))) = true then 1 else 0) + (if (decide (a < ma S 26 (8 * p + k)) && decide (ma S 26 (8 * p + k) = (s : Int))) = true then 1 else 0)
    simp only [Bool.and_eq_true, decide_eq_true_eq]
    by_cases q1 : a < ma S 26 (8 * p + k)
    · rcases (by omega : ma S 26 (8 * p + k) < s ∨ ma S 26 (8 * p + k) = s ∨ (s : Int) + 1 ≤ ma S 26 (8 * p + k)) with q | q | q
      · rw [if_pos ⟨q1, by omega⟩, if_pos ⟨q1, q⟩, if_neg (by omega)]; rfl
      · rw [if_pos ⟨q1, by omega⟩, if_neg (by omega), if_pos ⟨q1, q⟩]; rfl
      · rw [if_neg (by omega), if_neg (by omega), if_neg (by omega)]; rfl
    · rw [if_neg (by omega), if_neg (by omega), if_neg (by omega)]; rfl)
  have fT : f (ma S 27 p + 1).toNat = cnt (abC S p a) (mf S 3).toNat := cnt_ext _ (fun k k0 k1 => by
    have := ent k.toNat (by omega)
    rw [Int.toNat_of_nonneg k0] at this
    show (decide (a < ma S 26 (8 * p + k)) && decide (ma S 26 (8 * p + k) < (((ma S 27 p + 1).toNat : Nat) : Int))) = decide (a < ma S 26 (8 * p + k))
    rw [decide_eq_true (by omega : ma S 26 (8 * p + k) < (((ma S 27 p + 1).toNat : Nat) : Int)), Bool.and_true])
  obtain ⟨s, -, h1, h2⟩ := steps_to f0 (fun s => by have := stp s; have := one s; omega) j0 (ma S 27 p + 1).toNat (by omega)
  obtain ⟨k, hk, h3⟩ := cnt_some (c := fun k => decide (a < ma S 26 (8 * p + k)) && decide (ma S 26 (8 * p + k) = s)) (mf S 3).toNat (by have := stp s; omega)
  simp only [Bool.and_eq_true, decide_eq_true_eq] at h3
  refine last_is _ k hk ?_
  unfold chgC
  rw [decide_eq_true h3.1, Bool.true_and]
  refine decide_eq_true ?_
  rw [← h1]
  refine cnt_ext _ (fun x x0 x1 => ?_)
  show (decide (a < ma S 26 (8 * p + x)) && decide (ma S 26 (8 * p + x) < ma S 26 (8 * p + k))) = (decide (a < ma S 26 (8 * p + x)) && decide (ma S 26 (8 * p + x) < (s : Int)))
  rw [h3.2]
/-- the set of those that were told, after some -/
def sgv (S : MS) (p a : Int) : Nat → Int
  | 0 => 0
  | j + 1 => orb (sgv S p a j) (lastTo (chgC S p a j) (mf S 3).toNat)
theorem sgv_r (hs : SI t S) (p0 : 0 ≤ p) (p1 : p < 5) (a0 : 0 ≤ a) : ∀ j : Nat, (j : Int) ≤ cnt (abC S p a) (mf S 3).toNat → (0 ≤ sgv S p a j ∧ sgv S p a j < 256) ∧ ∀ z : Nat, z < 8 → (hb (sgv S p a j) z = true ↔ ∃ i : Nat, i < j ∧ lastTo (chgC S p a i) (mf S 3).toNat = z) := by
  intro j
  have nn := hs.wr.nn
  induction j with
  | zero =>
    intro _
    refine ⟨⟨Int.le_refl _, by show (0 : Int) < 256; omega⟩, fun z hz => ⟨fun q => ?_, fun q => ?_⟩⟩
    · have : hb 0 ((z : Nat) : Int) = true := q
      rw [hb08t z hz] at this; cases this
    · obtain ⟨i, hi, -⟩ := q; omega
  | succ j ih =>
    intro hj
    obtain ⟨⟨r1, r2⟩, r3⟩ := ih (by omega)
    obtain ⟨m, m1, m2, -⟩ := chg_at hs p0 p1 a0 (j := j) (by omega) (by omega)
    have tb := hor8t (sgv S p a j).toNat (by omega) m (by omega)
    rw [Int.toNat_of_nonneg r1] at tb
    have e : sgv S p a (j + 1) = orb (sgv S p a j) m := by
      show orb (sgv S p a j) (lastTo (chgC S p a j) (mf S 3).toNat) = _
      rw [m2]
    rw [e]
    refine ⟨tb.1, fun z hz => ?_⟩
    rw [tb.2 z hz]
    simp only [Bool.or_eq_true, decide_eq_true_eq]
    rw [r3 z hz]
    constructor
    · rintro (⟨i, h1, h2⟩ | q)
      · exact ⟨i, by omega, h2⟩
      · exact ⟨j, by omega, by rw [m2, q]⟩
    · rintro ⟨i, h1, h2⟩
      rcases (by omega : i < j ∨ i = j) with q | q
      · exact Or.inl ⟨i, q, h2⟩
      · subst q
        rw [m2] at h2
        exact Or.inr (by omega)
theorem sgv_ab (hs : SI t S) (p0 : 0 ≤ p) (p1 : p < 5) (a0 : 0 ≤ a) (z : Nat) (hz : z < (mf S 3).toNat) : hb (sgv S p a (cnt (abC S p a) (mf S 3).toNat).toNat) z = abC S p a z := by
  have nn := hs.wr.nn
  have de := hs.de
  have cr := cnt_r (abC S p a) (mf S 3).toNat
  have g := (sgv_r hs p0 p1 a0 (cnt (abC S p a) (mf S 3).toNat).toNat (by omega)).2 z (by omega)
  cases q : abC S p a z
  · cases q2 : hb (sgv S p a (cnt (abC S p a) (mf S 3).toNat).toNat) z
    · rfl
    · obtain ⟨i, h1, h2⟩ := g.mp q2
      obtain ⟨m, m1, m2, m3⟩ := chg_at hs p0 p1 a0 (j := i) (by omega) (by omega)
      have em : m = z := by omega
      subst em
      unfold chgC at m3
      simp only [Bool.and_eq_true, decide_eq_true_eq] at m3
      have : abC S p a m = true := decide_eq_true m3.1
      rw [q] at this; cases this
  · refine g.mpr ?_
    clear g
    have az : a < ma S 26 (8 * p + z) := of_decide_eq_true q
    have lt : cnt (aheadC S p a z) (mf S 3).toNat < cnt (abC S p a) (mf S 3).toNat := by
      have e := cnt_add (c := abC S p a) (c1 := aheadC S p a z) (c2 := fun k => decide (a < ma S 26 (8 * p + k)) && decide (ma S 26 (8 * p + z) ≤ ma S 26 (8 * p + k))) (mf S 3).toNat (fun k hk => by
        unfold abC aheadC
        simp only [Bool.and_eq_true, decide_eq_true_eq]
        by_cases q1 : a < ma S 26 (8 * p + k)
        · by_cases q2 : ma S 26 (8 * p + k) < ma S 26 (8 * p + z)
          · rw [if_pos q1, if_pos ⟨q1, q2⟩, if_neg (by omega)]; rfl
          · rw [if_pos q1, if_neg (by omega), if_pos ⟨q1, by omega⟩]; rfl
        · rw [if_neg q1, if_neg (by omega), if_neg (by omega)]; rfl)
      have e2 : 0 < cnt (fun k => decide (a < ma S 26 (8 * p + k)) && decide (ma S 26 (8 * p + z) ≤ ma S 26 (8 * p + k))) (mf S 3).toNat := cnt_pos hz (by
        show (decide (a < ma S 26 (8 * p + z)) && decide (ma S 26 (8 * p + z) ≤ ma S 26 (8 * p + z))) = true
        rw [decide_eq_true az, decide_eq_true (Int.le_refl _)]; rfl)
      omega
    have c0 := (cnt_r (aheadC S p a z) (mf S 3).toNat).1
    obtain ⟨m, m1, m2, m3⟩ := chg_at hs p0 p1 a0 (j := cnt (aheadC S p a z) (mf S 3).toNat) c0 lt
    refine ⟨(cnt (aheadC S p a z) (mf S 3).toNat).toNat, by omega, ?_⟩
    rw [Int.toNat_of_nonneg c0, m2]
    unfold chgC at m3
    simp only [Bool.and_eq_true, decide_eq_true_eq] at m3
    obtain ⟨am, cm⟩ := m3
    -- two with as many ahead are one
    have key : ∀ x y : Nat, x < (mf S 3).toNat → y < (mf S 3).toNat → a < ma S 26 (8 * p + x) → ma S 26 (8 * p + x) < ma S 26 (8 * p + y) → cnt (aheadC S p a x) (mf S 3).toNat < cnt (aheadC S p a y) (mf S 3).toNat := fun x y hx hy ax xy => by
      have e := cnt_add (c := aheadC S p a y) (c1 := aheadC S p a x) (c2 := fun k => decide (a < ma S 26 (8 * p + k)) && (decide (ma S 26 (8 * p + x) ≤ ma S 26 (8 * p + k)) && decide (ma S 26 (8 * p + k) < ma S 26 (8 * p + y)))) (mf S 3).toNat (fun k hk => by
        unfold aheadC
        simp only [Bool.and_eq_true, decide_eq_true_eq]
        by_cases q1 : a < ma S 26 (8 * p + k)
        · by_cases q2 : ma S 26 (8 * p + k) < ma S 26 (8 * p + x)
          · rw [if_pos ⟨q1, by omega⟩, if_pos ⟨q1, q2⟩, if_neg (by omega)]; rfl
          · by_cases q3 : ma S 26 (8 * p + k) < ma S 26 (8 * p + y)
            · rw [if_pos ⟨q1, q3⟩, if_neg (by omega), if_pos ⟨q1, by omega, q3⟩]; rfl
            · rw [if_neg (by omega), if_neg (by omega), if_neg (by omega)]; rfl
        · rw [if_neg (by omega), if_neg (by omega), if_neg (by omega)]; rfl)
      have e2 : 0 < cnt (fun k => decide (a < ma S 26 (8 * p + k)) && (decide (ma S 26 (8 * p + x) ≤ ma S 26 (8 * p + k)) && decide (ma S 26 (8 * p + k) < ma S 26 (8 * p + y)))) (mf S 3).toNat := cnt_pos hx (by
        show (decide (a < ma S 26 (8 * p + x)) && (decide (ma S 26 (8 * p + x) ≤ ma S 26 (8 * p + x)) && decide (ma S 26 (8 * p + x) < ma S 26 (8 * p + y)))) = true
        rw [decide_eq_true ax, decide_eq_true (Int.le_refl _), decide_eq_true xy]; rfl)
      omega
    rcases (by omega : ma S 26 (8 * p + m) < ma S 26 (8 * p + z) ∨ ma S 26 (8 * p + z) < ma S 26 (8 * p + m) ∨ ma S 26 (8 * p + m) = ma S 26 (8 * p + z)) with q1 | q1 | q1
    · have g1 := key m z m1 hz am q1
      clear key de
      rw [cm] at g1
      exact absurd g1 (Int.lt_irrefl _)
    · have g1 := key z m hz m1 az q1
      rw [cm] at g1
      exact absurd g1 (Int.lt_irrefl _)
    · rcases (by omega : m = z ∨ ¬ (m : Int) = z) with q2 | q2
      · rw [q2]
      · clear cm
        have u1 : (m : Int) < 8 := by omega
        have u2 : (z : Int) < 8 := by omega
        have := de p m z p0 p1 (Int.natCast_nonneg _) u1 (Int.natCast_nonneg _) u2 q2 q1
        omega
end C95
section C95b
variable {L : LSt} {sv : Nat} {p : Int}
theorem val_areMarks (h : LJ L) (p0 : 0 ≤ p) (p1 : p < 5) (x : Int32) : F_L_areMarks sv (I p) x L = some (.ok (I 1), L) := by
  have w := h.si.wr
  have nn := w.nn
  have ht := h.1.2.2
  have hk := h.k p0 p1
  have hg0 := h.g0
  have ps := w.ps p0 p1
  have gp : gP p = true := decide_eq_true (by omega)
  have hlr := lowv_r x (show 0 < ma (zS L) 27 p + 1 by omega)
  generalize ha : lowv x (ma (zS L) 27 p + 1) = a at hlr
  have q1 : v_mark (zS L) p = ma (zS L) 27 p := rv_ok gp rfl rfl
  have gmk : ∀ y : Int, 0 ≤ y → y ≤ ma (zS L) 27 p → gMk (zS L) p y = true := fun y y0 y1 => by
    unfold gMk; rw [gp, decide_eq_true ⟨y0, y1⟩]; rfl
  have q2 : v_changes (zS L) p (ma (zS L) 27 p) = 0 := by
    refine (rv_ok gp (gmk _ (by omega) (by omega)) (by unfold gFl; rw [gmk _ (by omega) (by omega), decide_eq_true (by omega : ma (zS L) 28 p ≤ ma (zS L) 27 p)]; rfl)).trans ?_
    refine cnt_none _ (fun d d0 d1 => decide_eq_false ?_)
    have := (w.cp p0 p1 d0 (by omega)).2
    omega
  have q3 : v_changes (zS L) p (ma (zS L) 27 p + 1) = -1000002 := rv_2 gp (by unfold gMk; rw [decide_eq_false (by omega), Bool.and_false])
  have q4 : v_changes (zS L) p (-1) = -1000002 := rv_2 gp (by unfold gMk; rw [decide_eq_false (by omega), Bool.and_false])
  have q5 : v_mark (zS L) 5 = -1000001 := rv_1 rfl
  have q6 : v_changes (zS L) 5 0 = -1000001 := rv_1 rfl
  have q7 : v_changeAt (zS L) (-1) 0 0 = -1000001 := rfl
  have fl : ∀ y : Int, 0 ≤ y → y ≤ ma (zS L) 27 p → v_changes (zS L) p y = if ma (zS L) 28 p ≤ y then cnt (abC (zS L) p y) (mf (zS L) 3).toNat else -1000003 := fun y y0 y1 => by
    by_cases q : ma (zS L) 28 p ≤ y
    · rw [if_pos q]
      exact rv_ok gp (gmk y y0 y1) (by unfold gFl; rw [gmk y y0 y1, decide_eq_true q]; rfl)
    · rw [if_neg q]
      exact rv_3 gp (gmk y y0 y1) (by unfold gFl; rw [decide_eq_false q, Bool.and_false])
  have fa := fl a hlr.1 (by omega)
  have cr := cnt_r (abC (zS L) p a) (mf (zS L) 3).toNat
  unfold F_L_areMarks
  refine E_b (I (ma (zS L) 27 p)) L (by (simp (disch := omega) only [lb_lp, lb_as, lp_ap, lgo_ok, lb_lq, lq_ap, I_add, I_sub, ev_n, ea_n, ev_k, ea_k, ev_g0, ea_g0, ev_g1, ea_g1, ev_div, ea_div, ev_rem, ea_rem, ev_low, ea_low, gl0, gl1, b2i_ne, b2i_eq, ev_common, ev_local, ev_kindOf, ev_receiver, ev_isThere, ev_sequence, ev_dates, ev_dateAt, ev_begin, ev_ownAnswer, ev_isAsked, ev_answerOf, ev_answerByLog, ev_agrees, ev_proposals, ev_proposalAt, ev_rank, ev_mark, ev_changes, ev_changeAt, ev_firstFree, ev_firstFreeByHours, ev_lineLength, ev_lineChar, ea_common, ea_local, ea_kindOf, ea_receiver, ea_isThere, ea_sequence, ea_dates, ea_dateAt, ea_begin, ea_ownAnswer, ea_isAsked, ea_answerOf, ea_answerByLog, ea_agrees, ea_proposals, ea_proposalAt, ea_rank, ea_mark, ea_changes, ea_changeAt, ea_firstFree, ea_firstFreeByHours, ea_lineLength, ea_lineChar, q1, Option.some.injEq, Prod.mk.injEq, Except.ok.injEq, and_true, true_and, decide_eq_true_eq, decide_eq_false_iff_not, Bool.not_eq_true', Bool.not_eq_false', eq_self, decide_true, Decidable.not_not, Bool.not_eq_false, Bool.not_eq_true, Bool.true_eq_false, Bool.false_eq_true, not_true_eq_false, not_false_eq_true, decide_false, Bool.not_true, Bool.not_false, ite_true, ite_false, I_lt, I_le, I_inj]) <;> (first | done | rfl | exact congrArg I (by omega) | omega)) ?_
  refine E_b (I a) L (by (simp (disch := omega) only [lb_lp, lb_as, lp_ap, lgo_ok, lb_lq, lq_ap, I_add, I_sub, ev_n, ea_n, ev_k, ea_k, ev_g0, ea_g0, ev_g1, ea_g1, ev_div, ea_div, ev_rem, ea_rem, ev_low, ea_low, gl0, gl1, b2i_ne, b2i_eq, ev_common, ev_local, ev_kindOf, ev_receiver, ev_isThere, ev_sequence, ev_dates, ev_dateAt, ev_begin, ev_ownAnswer, ev_isAsked, ev_answerOf, ev_answerByLog, ev_agrees, ev_proposals, ev_proposalAt, ev_rank, ev_mark, ev_changes, ev_changeAt, ev_firstFree, ev_firstFreeByHours, ev_lineLength, ev_lineChar, ea_common, ea_local, ea_kindOf, ea_receiver, ea_isThere, ea_sequence, ea_dates, ea_dateAt, ea_begin, ea_ownAnswer, ea_isAsked, ea_answerOf, ea_answerByLog, ea_agrees, ea_proposals, ea_proposalAt, ea_rank, ea_mark, ea_changes, ea_changeAt, ea_firstFree, ea_firstFreeByHours, ea_lineLength, ea_lineChar, ha, Option.some.injEq, Prod.mk.injEq, Except.ok.injEq, and_true, true_and, decide_eq_true_eq, decide_eq_false_iff_not, Bool.not_eq_true', Bool.not_eq_false', eq_self, decide_true, Decidable.not_not, Bool.not_eq_false, Bool.not_eq_true, Bool.true_eq_false, Bool.false_eq_true, not_true_eq_false, not_false_eq_true, decide_false, Bool.not_true, Bool.not_false, ite_true, ite_false, I_lt, I_le, I_inj]) <;> (first | done | rfl | exact congrArg I (by omega) | omega)) ?_
  refine E_b (I (v_changes (zS L) p a)) L (by (simp (disch := omega) only [lb_lp, lb_as, lp_ap, lgo_ok, lb_lq, lq_ap, I_add, I_sub, ev_n, ea_n, ev_k, ea_k, ev_g0, ea_g0, ev_g1, ea_g1, ev_div, ea_div, ev_rem, ea_rem, ev_low, ea_low, gl0, gl1, b2i_ne, b2i_eq, ev_common, ev_local, ev_kindOf, ev_receiver, ev_isThere, ev_sequence, ev_dates, ev_dateAt, ev_begin, ev_ownAnswer, ev_isAsked, ev_answerOf, ev_answerByLog, ev_agrees, ev_proposals, ev_proposalAt, ev_rank, ev_mark, ev_changes, ev_changeAt, ev_firstFree, ev_firstFreeByHours, ev_lineLength, ev_lineChar, ea_common, ea_local, ea_kindOf, ea_receiver, ea_isThere, ea_sequence, ea_dates, ea_dateAt, ea_begin, ea_ownAnswer, ea_isAsked, ea_answerOf, ea_answerByLog, ea_agrees, ea_proposals, ea_proposalAt, ea_rank, ea_mark, ea_changes, ea_changeAt, ea_firstFree, ea_firstFreeByHours, ea_lineLength, ea_lineChar, Option.some.injEq, Prod.mk.injEq, Except.ok.injEq, and_true, true_and, decide_eq_true_eq, decide_eq_false_iff_not, Bool.not_eq_true', Bool.not_eq_false', eq_self, decide_true, Decidable.not_not, Bool.not_eq_false, Bool.not_eq_true, Bool.true_eq_false, Bool.false_eq_true, not_true_eq_false, not_false_eq_true, decide_false, Bool.not_true, Bool.not_false, ite_true, ite_false, I_lt, I_le, I_inj]) <;> (first | done | rfl | exact congrArg I (by omega) | omega)) ?_
  refine E_b (I 1) L ?_ ?_
  · refine E_bt (E_and (L1 := L) (E_and (L1 := L) (E_and (L1 := L) (E_and (L1 := L) (E_and (L1 := L) (E_and (L1 := L) ?_ ?_) ?_) ?_) ?_) ?_) ?_)
    · (simp (disch := omega) only [lb_lp, lb_as, lp_ap, lgo_ok, lb_lq, lq_ap, I_add, I_sub, ev_n, ea_n, ev_k, ea_k, ev_g0, ea_g0, ev_g1, ea_g1, ev_div, ea_div, ev_rem, ea_rem, ev_low, ea_low, gl0, gl1, b2i_ne, b2i_eq, ev_common, ev_local, ev_kindOf, ev_receiver, ev_isThere, ev_sequence, ev_dates, ev_dateAt, ev_begin, ev_ownAnswer, ev_isAsked, ev_answerOf, ev_answerByLog, ev_agrees, ev_proposals, ev_proposalAt, ev_rank, ev_mark, ev_changes, ev_changeAt, ev_firstFree, ev_firstFreeByHours, ev_lineLength, ev_lineChar, ea_common, ea_local, ea_kindOf, ea_receiver, ea_isThere, ea_sequence, ea_dates, ea_dateAt, ea_begin, ea_ownAnswer, ea_isAsked, ea_answerOf, ea_answerByLog, ea_agrees, ea_proposals, ea_proposalAt, ea_rank, ea_mark, ea_changes, ea_changeAt, ea_firstFree, ea_firstFreeByHours, ea_lineLength, ea_lineChar, hk, Option.some.injEq, Prod.mk.injEq, Except.ok.injEq, and_true, true_and, decide_eq_true_eq, decide_eq_false_iff_not, Bool.not_eq_true', Bool.not_eq_false', eq_self, decide_true, Decidable.not_not, Bool.not_eq_false, Bool.not_eq_true, Bool.true_eq_false, Bool.false_eq_true, not_true_eq_false, not_false_eq_true, decide_false, Bool.not_true, Bool.not_false, ite_true, ite_false, I_lt, I_le, I_inj]) <;> (first | done | rfl | exact congrArg I (by omega) | omega)
    · (simp (disch := omega) only [lb_lp, lb_as, lp_ap, lgo_ok, lb_lq, lq_ap, I_add, I_sub, ev_n, ea_n, ev_k, ea_k, ev_g0, ea_g0, ev_g1, ea_g1, ev_div, ea_div, ev_rem, ea_rem, ev_low, ea_low, gl0, gl1, b2i_ne, b2i_eq, ev_common, ev_local, ev_kindOf, ev_receiver, ev_isThere, ev_sequence, ev_dates, ev_dateAt, ev_begin, ev_ownAnswer, ev_isAsked, ev_answerOf, ev_answerByLog, ev_agrees, ev_proposals, ev_proposalAt, ev_rank, ev_mark, ev_changes, ev_changeAt, ev_firstFree, ev_firstFreeByHours, ev_lineLength, ev_lineChar, ea_common, ea_local, ea_kindOf, ea_receiver, ea_isThere, ea_sequence, ea_dates, ea_dateAt, ea_begin, ea_ownAnswer, ea_isAsked, ea_answerOf, ea_answerByLog, ea_agrees, ea_proposals, ea_proposalAt, ea_rank, ea_mark, ea_changes, ea_changeAt, ea_firstFree, ea_firstFreeByHours, ea_lineLength, ea_lineChar, q2, Option.some.injEq, Prod.mk.injEq, Except.ok.injEq, and_true, true_and, decide_eq_true_eq, decide_eq_false_iff_not, Bool.not_eq_true', Bool.not_eq_false', eq_self, decide_true, Decidable.not_not, Bool.not_eq_false, Bool.not_eq_true, Bool.true_eq_false, Bool.false_eq_true, not_true_eq_false, not_false_eq_true, decide_false, Bool.not_true, Bool.not_false, ite_true, ite_false, I_lt, I_le, I_inj]) <;> (first | done | rfl | exact congrArg I (by omega) | omega)
    · (simp (disch := omega) only [lb_lp, lb_as, lp_ap, lgo_ok, lb_lq, lq_ap, I_add, I_sub, ev_n, ea_n, ev_k, ea_k, ev_g0, ea_g0, ev_g1, ea_g1, ev_div, ea_div, ev_rem, ea_rem, ev_low, ea_low, gl0, gl1, b2i_ne, b2i_eq, ev_common, ev_local, ev_kindOf, ev_receiver, ev_isThere, ev_sequence, ev_dates, ev_dateAt, ev_begin, ev_ownAnswer, ev_isAsked, ev_answerOf, ev_answerByLog, ev_agrees, ev_proposals, ev_proposalAt, ev_rank, ev_mark, ev_changes, ev_changeAt, ev_firstFree, ev_firstFreeByHours, ev_lineLength, ev_lineChar, ea_common, ea_local, ea_kindOf, ea_receiver, ea_isThere, ea_sequence, ea_dates, ea_dateAt, ea_begin, ea_ownAnswer, ea_isAsked, ea_answerOf, ea_answerByLog, ea_agrees, ea_proposals, ea_proposalAt, ea_rank, ea_mark, ea_changes, ea_changeAt, ea_firstFree, ea_firstFreeByHours, ea_lineLength, ea_lineChar, q3, Option.some.injEq, Prod.mk.injEq, Except.ok.injEq, and_true, true_and, decide_eq_true_eq, decide_eq_false_iff_not, Bool.not_eq_true', Bool.not_eq_false', eq_self, decide_true, Decidable.not_not, Bool.not_eq_false, Bool.not_eq_true, Bool.true_eq_false, Bool.false_eq_true, not_true_eq_false, not_false_eq_true, decide_false, Bool.not_true, Bool.not_false, ite_true, ite_false, I_lt, I_le, I_inj]) <;> (first | done | rfl | exact congrArg I (by omega) | omega)
    · (simp (disch := omega) only [lb_lp, lb_as, lp_ap, lgo_ok, lb_lq, lq_ap, I_add, I_sub, ev_n, ea_n, ev_k, ea_k, ev_g0, ea_g0, ev_g1, ea_g1, ev_div, ea_div, ev_rem, ea_rem, ev_low, ea_low, gl0, gl1, b2i_ne, b2i_eq, ev_common, ev_local, ev_kindOf, ev_receiver, ev_isThere, ev_sequence, ev_dates, ev_dateAt, ev_begin, ev_ownAnswer, ev_isAsked, ev_answerOf, ev_answerByLog, ev_agrees, ev_proposals, ev_proposalAt, ev_rank, ev_mark, ev_changes, ev_changeAt, ev_firstFree, ev_firstFreeByHours, ev_lineLength, ev_lineChar, ea_common, ea_local, ea_kindOf, ea_receiver, ea_isThere, ea_sequence, ea_dates, ea_dateAt, ea_begin, ea_ownAnswer, ea_isAsked, ea_answerOf, ea_answerByLog, ea_agrees, ea_proposals, ea_proposalAt, ea_rank, ea_mark, ea_changes, ea_changeAt, ea_firstFree, ea_firstFreeByHours, ea_lineLength, ea_lineChar, q4, Option.some.injEq, Prod.mk.injEq, Except.ok.injEq, and_true, true_and, decide_eq_true_eq, decide_eq_false_iff_not, Bool.not_eq_true', Bool.not_eq_false', eq_self, decide_true, Decidable.not_not, Bool.not_eq_false, Bool.not_eq_true, Bool.true_eq_false, Bool.false_eq_true, not_true_eq_false, not_false_eq_true, decide_false, Bool.not_true, Bool.not_false, ite_true, ite_false, I_lt, I_le, I_inj]) <;> (first | done | rfl | exact congrArg I (by omega) | omega)
    · (simp (disch := omega) only [lb_lp, lb_as, lp_ap, lgo_ok, lb_lq, lq_ap, I_add, I_sub, ev_n, ea_n, ev_k, ea_k, ev_g0, ea_g0, ev_g1, ea_g1, ev_div, ea_div, ev_rem, ea_rem, ev_low, ea_low, gl0, gl1, b2i_ne, b2i_eq, ev_common, ev_local, ev_kindOf, ev_receiver, ev_isThere, ev_sequence, ev_dates, ev_dateAt, ev_begin, ev_ownAnswer, ev_isAsked, ev_answerOf, ev_answerByLog, ev_agrees, ev_proposals, ev_proposalAt, ev_rank, ev_mark, ev_changes, ev_changeAt, ev_firstFree, ev_firstFreeByHours, ev_lineLength, ev_lineChar, ea_common, ea_local, ea_kindOf, ea_receiver, ea_isThere, ea_sequence, ea_dates, ea_dateAt, ea_begin, ea_ownAnswer, ea_isAsked, ea_answerOf, ea_answerByLog, ea_agrees, ea_proposals, ea_proposalAt, ea_rank, ea_mark, ea_changes, ea_changeAt, ea_firstFree, ea_firstFreeByHours, ea_lineLength, ea_lineChar, q5, Option.some.injEq, Prod.mk.injEq, Except.ok.injEq, and_true, true_and, decide_eq_true_eq, decide_eq_false_iff_not, Bool.not_eq_true', Bool.not_eq_false', eq_self, decide_true, Decidable.not_not, Bool.not_eq_false, Bool.not_eq_true, Bool.true_eq_false, Bool.false_eq_true, not_true_eq_false, not_false_eq_true, decide_false, Bool.not_true, Bool.not_false, ite_true, ite_false, I_lt, I_le, I_inj]) <;> (first | done | rfl | exact congrArg I (by omega) | omega)
    · (simp (disch := omega) only [lb_lp, lb_as, lp_ap, lgo_ok, lb_lq, lq_ap, I_add, I_sub, ev_n, ea_n, ev_k, ea_k, ev_g0, ea_g0, ev_g1, ea_g1, ev_div, ea_div, ev_rem, ea_rem, ev_low, ea_low, gl0, gl1, b2i_ne, b2i_eq, ev_common, ev_local, ev_kindOf, ev_receiver, ev_isThere, ev_sequence, ev_dates, ev_dateAt, ev_begin, ev_ownAnswer, ev_isAsked, ev_answerOf, ev_answerByLog, ev_agrees, ev_proposals, ev_proposalAt, ev_rank, ev_mark, ev_changes, ev_changeAt, ev_firstFree, ev_firstFreeByHours, ev_lineLength, ev_lineChar, ea_common, ea_local, ea_kindOf, ea_receiver, ea_isThere, ea_sequence, ea_dates, ea_dateAt, ea_begin, ea_ownAnswer, ea_isAsked, ea_answerOf, ea_answerByLog, ea_agrees, ea_proposals, ea_proposalAt, ea_rank, ea_mark, ea_changes, ea_changeAt, ea_firstFree, ea_firstFreeByHours, ea_lineLength, ea_lineChar, q6, Option.some.injEq, Prod.mk.injEq, Except.ok.injEq, and_true, true_and, decide_eq_true_eq, decide_eq_false_iff_not, Bool.not_eq_true', Bool.not_eq_false', eq_self, decide_true, Decidable.not_not, Bool.not_eq_false, Bool.not_eq_true, Bool.true_eq_false, Bool.false_eq_true, not_true_eq_false, not_false_eq_true, decide_false, Bool.not_true, Bool.not_false, ite_true, ite_false, I_lt, I_le, I_inj]) <;> (first | done | rfl | exact congrArg I (by omega) | omega)
    · (simp (disch := omega) only [lb_lp, lb_as, lp_ap, lgo_ok, lb_lq, lq_ap, I_add, I_sub, ev_n, ea_n, ev_k, ea_k, ev_g0, ea_g0, ev_g1, ea_g1, ev_div, ea_div, ev_rem, ea_rem, ev_low, ea_low, gl0, gl1, b2i_ne, b2i_eq, ev_common, ev_local, ev_kindOf, ev_receiver, ev_isThere, ev_sequence, ev_dates, ev_dateAt, ev_begin, ev_ownAnswer, ev_isAsked, ev_answerOf, ev_answerByLog, ev_agrees, ev_proposals, ev_proposalAt, ev_rank, ev_mark, ev_changes, ev_changeAt, ev_firstFree, ev_firstFreeByHours, ev_lineLength, ev_lineChar, ea_common, ea_local, ea_kindOf, ea_receiver, ea_isThere, ea_sequence, ea_dates, ea_dateAt, ea_begin, ea_ownAnswer, ea_isAsked, ea_answerOf, ea_answerByLog, ea_agrees, ea_proposals, ea_proposalAt, ea_rank, ea_mark, ea_changes, ea_changeAt, ea_firstFree, ea_firstFreeByHours, ea_lineLength, ea_lineChar, q7, Option.some.injEq, Prod.mk.injEq, Except.ok.injEq, and_true, true_and, decide_eq_true_eq, decide_eq_false_iff_not, Bool.not_eq_true', Bool.not_eq_false', eq_self, decide_true, Decidable.not_not, Bool.not_eq_false, Bool.not_eq_true, Bool.true_eq_false, Bool.false_eq_true, not_true_eq_false, not_false_eq_true, decide_false, Bool.not_true, Bool.not_false, ite_true, ite_false, I_lt, I_le, I_inj]) <;> (first | done | rfl | exact congrArg I (by omega) | omega)
  by_cases c : ma (zS L) 28 p ≤ a
  case neg =>
    rw [if_neg c] at fa
    rw [fa]
    refine E_if1 (L1 := L) (by (simp (disch := omega) only [lb_lp, lb_as, lp_ap, lgo_ok, lb_lq, lq_ap, I_add, I_sub, ev_n, ea_n, ev_k, ea_k, ev_g0, ea_g0, ev_g1, ea_g1, ev_div, ea_div, ev_rem, ea_rem, ev_low, ea_low, gl0, gl1, b2i_ne, b2i_eq, ev_common, ev_local, ev_kindOf, ev_receiver, ev_isThere, ev_sequence, ev_dates, ev_dateAt, ev_begin, ev_ownAnswer, ev_isAsked, ev_answerOf, ev_answerByLog, ev_agrees, ev_proposals, ev_proposalAt, ev_rank, ev_mark, ev_changes, ev_changeAt, ev_firstFree, ev_firstFreeByHours, ev_lineLength, ev_lineChar, ea_common, ea_local, ea_kindOf, ea_receiver, ea_isThere, ea_sequence, ea_dates, ea_dateAt, ea_begin, ea_ownAnswer, ea_isAsked, ea_answerOf, ea_answerByLog, ea_agrees, ea_proposals, ea_proposalAt, ea_rank, ea_mark, ea_changes, ea_changeAt, ea_firstFree, ea_firstFreeByHours, ea_lineLength, ea_lineChar, Option.some.injEq, Prod.mk.injEq, Except.ok.injEq, and_true, true_and, decide_eq_true_eq, decide_eq_false_iff_not, Bool.not_eq_true', Bool.not_eq_false', eq_self, decide_true, Decidable.not_not, Bool.not_eq_false, Bool.not_eq_true, Bool.true_eq_false, Bool.false_eq_true, not_true_eq_false, not_false_eq_true, decide_false, Bool.not_true, Bool.not_false, ite_true, ite_false, I_lt, I_le, I_inj]) <;> (first | done | rfl | exact congrArg I (by omega) | omega)) ?_
    have q8 : v_changeAt (zS L) p a 0 = -1000003 := by
      unfold v_changeAt
      have g3 : gFl (zS L) p a = false := by unfold gFl; rw [decide_eq_false c, Bool.and_false]
      rw [g3, Bool.and_false, if_neg (by decide)]
      exact rv_3 gp (gmk a hlr.1 (by omega)) rfl
    exact E_ret (E_and (L1 := L) (E_and (L1 := L) (by (simp (disch := omega) only [lb_lp, lb_as, lp_ap, lgo_ok, lb_lq, lq_ap, I_add, I_sub, ev_n, ea_n, ev_k, ea_k, ev_g0, ea_g0, ev_g1, ea_g1, ev_div, ea_div, ev_rem, ea_rem, ev_low, ea_low, gl0, gl1, b2i_ne, b2i_eq, ev_common, ev_local, ev_kindOf, ev_receiver, ev_isThere, ev_sequence, ev_dates, ev_dateAt, ev_begin, ev_ownAnswer, ev_isAsked, ev_answerOf, ev_answerByLog, ev_agrees, ev_proposals, ev_proposalAt, ev_rank, ev_mark, ev_changes, ev_changeAt, ev_firstFree, ev_firstFreeByHours, ev_lineLength, ev_lineChar, ea_common, ea_local, ea_kindOf, ea_receiver, ea_isThere, ea_sequence, ea_dates, ea_dateAt, ea_begin, ea_ownAnswer, ea_isAsked, ea_answerOf, ea_answerByLog, ea_agrees, ea_proposals, ea_proposalAt, ea_rank, ea_mark, ea_changes, ea_changeAt, ea_firstFree, ea_firstFreeByHours, ea_lineLength, ea_lineChar, Option.some.injEq, Prod.mk.injEq, Except.ok.injEq, and_true, true_and, decide_eq_true_eq, decide_eq_false_iff_not, Bool.not_eq_true', Bool.not_eq_false', eq_self, decide_true, Decidable.not_not, Bool.not_eq_false, Bool.not_eq_true, Bool.true_eq_false, Bool.false_eq_true, not_true_eq_false, not_false_eq_true, decide_false, Bool.not_true, Bool.not_false, ite_true, ite_false, I_lt, I_le, I_inj]) <;> (first | done | rfl | exact congrArg I (by omega) | omega)) (by (simp (disch := omega) only [lb_lp, lb_as, lp_ap, lgo_ok, lb_lq, lq_ap, I_add, I_sub, ev_n, ea_n, ev_k, ea_k, ev_g0, ea_g0, ev_g1, ea_g1, ev_div, ea_div, ev_rem, ea_rem, ev_low, ea_low, gl0, gl1, b2i_ne, b2i_eq, ev_common, ev_local, ev_kindOf, ev_receiver, ev_isThere, ev_sequence, ev_dates, ev_dateAt, ev_begin, ev_ownAnswer, ev_isAsked, ev_answerOf, ev_answerByLog, ev_agrees, ev_proposals, ev_proposalAt, ev_rank, ev_mark, ev_changes, ev_changeAt, ev_firstFree, ev_firstFreeByHours, ev_lineLength, ev_lineChar, ea_common, ea_local, ea_kindOf, ea_receiver, ea_isThere, ea_sequence, ea_dates, ea_dateAt, ea_begin, ea_ownAnswer, ea_isAsked, ea_answerOf, ea_answerByLog, ea_agrees, ea_proposals, ea_proposalAt, ea_rank, ea_mark, ea_changes, ea_changeAt, ea_firstFree, ea_firstFreeByHours, ea_lineLength, ea_lineChar, Option.some.injEq, Prod.mk.injEq, Except.ok.injEq, and_true, true_and, decide_eq_true_eq, decide_eq_false_iff_not, Bool.not_eq_true', Bool.not_eq_false', eq_self, decide_true, Decidable.not_not, Bool.not_eq_false, Bool.not_eq_true, Bool.true_eq_false, Bool.false_eq_true, not_true_eq_false, not_false_eq_true, decide_false, Bool.not_true, Bool.not_false, ite_true, ite_false, I_lt, I_le, I_inj]) <;> (first | done | rfl | exact congrArg I (by omega) | omega))) (by (simp (disch := omega) only [lb_lp, lb_as, lp_ap, lgo_ok, lb_lq, lq_ap, I_add, I_sub, ev_n, ea_n, ev_k, ea_k, ev_g0, ea_g0, ev_g1, ea_g1, ev_div, ea_div, ev_rem, ea_rem, ev_low, ea_low, gl0, gl1, b2i_ne, b2i_eq, ev_common, ev_local, ev_kindOf, ev_receiver, ev_isThere, ev_sequence, ev_dates, ev_dateAt, ev_begin, ev_ownAnswer, ev_isAsked, ev_answerOf, ev_answerByLog, ev_agrees, ev_proposals, ev_proposalAt, ev_rank, ev_mark, ev_changes, ev_changeAt, ev_firstFree, ev_firstFreeByHours, ev_lineLength, ev_lineChar, ea_common, ea_local, ea_kindOf, ea_receiver, ea_isThere, ea_sequence, ea_dates, ea_dateAt, ea_begin, ea_ownAnswer, ea_isAsked, ea_answerOf, ea_answerByLog, ea_agrees, ea_proposals, ea_proposalAt, ea_rank, ea_mark, ea_changes, ea_changeAt, ea_firstFree, ea_firstFreeByHours, ea_lineLength, ea_lineChar, q8, Option.some.injEq, Prod.mk.injEq, Except.ok.injEq, and_true, true_and, decide_eq_true_eq, decide_eq_false_iff_not, Bool.not_eq_true', Bool.not_eq_false', eq_self, decide_true, Decidable.not_not, Bool.not_eq_false, Bool.not_eq_true, Bool.true_eq_false, Bool.false_eq_true, not_true_eq_false, not_false_eq_true, decide_false, Bool.not_true, Bool.not_false, ite_true, ite_false, I_lt, I_le, I_inj]) <;> (first | done | rfl | exact congrArg I (by omega) | omega)))
  rw [if_pos c] at fa
  rw [fa]
  generalize hN : cnt (abC (zS L) p a) (mf (zS L) 3).toNat = N at fa cr
  have gall : (gP p && gMk (zS L) p a && gFl (zS L) p a) = true := by
    unfold gFl
    rw [gp, gmk a hlr.1 (by omega), decide_eq_true c]; rfl
  have vca : ∀ j : Int, 0 ≤ j → j < N → v_changeAt (zS L) p a j = lastTo (chgC (zS L) p a j) (mf (zS L) 3).toNat := fun j j0 j1 => by
    unfold v_changeAt
    rw [if_pos gall]
    exact rv_ok (decide_eq_true (by omega)) rfl rfl
  have q9 : v_changeAt (zS L) p a N = -1000001 := by
    unfold v_changeAt
    rw [if_pos gall]
    exact rv_1 (decide_eq_false (by omega))
  refine E_if2 (L1 := L) (by (simp (disch := omega) only [lb_lp, lb_as, lp_ap, lgo_ok, lb_lq, lq_ap, I_add, I_sub, ev_n, ea_n, ev_k, ea_k, ev_g0, ea_g0, ev_g1, ea_g1, ev_div, ea_div, ev_rem, ea_rem, ev_low, ea_low, gl0, gl1, b2i_ne, b2i_eq, ev_common, ev_local, ev_kindOf, ev_receiver, ev_isThere, ev_sequence, ev_dates, ev_dateAt, ev_begin, ev_ownAnswer, ev_isAsked, ev_answerOf, ev_answerByLog, ev_agrees, ev_proposals, ev_proposalAt, ev_rank, ev_mark, ev_changes, ev_changeAt, ev_firstFree, ev_firstFreeByHours, ev_lineLength, ev_lineChar, ea_common, ea_local, ea_kindOf, ea_receiver, ea_isThere, ea_sequence, ea_dates, ea_dateAt, ea_begin, ea_ownAnswer, ea_isAsked, ea_answerOf, ea_answerByLog, ea_agrees, ea_proposals, ea_proposalAt, ea_rank, ea_mark, ea_changes, ea_changeAt, ea_firstFree, ea_firstFreeByHours, ea_lineLength, ea_lineChar, Option.some.injEq, Prod.mk.injEq, Except.ok.injEq, and_true, true_and, decide_eq_true_eq, decide_eq_false_iff_not, Bool.not_eq_true', Bool.not_eq_false', eq_self, decide_true, Decidable.not_not, Bool.not_eq_false, Bool.not_eq_true, Bool.true_eq_false, Bool.false_eq_true, not_true_eq_false, not_false_eq_true, decide_false, Bool.not_true, Bool.not_false, ite_true, ite_false, I_lt, I_le, I_inj]) <;> (first | done | rfl | exact congrArg I (by omega) | omega)) ?_
  refine E_b (I 0) L rfl ?_
  refine E_b (I 0) L rfl ?_
  refine E_b (I (sgv (zS L) p a N.toNat), I N) L ?_ ?_
  · refine ll_run2 (fun j => (I (sgv (zS L) p a j), I (j : Int))) (fun _ => L) N.toNat rfl rfl (pr2 rfl (by omega)) rfl (fun j hj => ?_) (fun j hj => ?_) ?_ (by omega)
    · (simp (disch := omega) only [lb_lp, lb_as, lp_ap, lgo_ok, lb_lq, lq_ap, I_add, I_sub, ev_n, ea_n, ev_k, ea_k, ev_g0, ea_g0, ev_g1, ea_g1, ev_div, ea_div, ev_rem, ea_rem, ev_low, ea_low, gl0, gl1, b2i_ne, b2i_eq, ev_common, ev_local, ev_kindOf, ev_receiver, ev_isThere, ev_sequence, ev_dates, ev_dateAt, ev_begin, ev_ownAnswer, ev_isAsked, ev_answerOf, ev_answerByLog, ev_agrees, ev_proposals, ev_proposalAt, ev_rank, ev_mark, ev_changes, ev_changeAt, ev_firstFree, ev_firstFreeByHours, ev_lineLength, ev_lineChar, ea_common, ea_local, ea_kindOf, ea_receiver, ea_isThere, ea_sequence, ea_dates, ea_dateAt, ea_begin, ea_ownAnswer, ea_isAsked, ea_answerOf, ea_answerByLog, ea_agrees, ea_proposals, ea_proposalAt, ea_rank, ea_mark, ea_changes, ea_changeAt, ea_firstFree, ea_firstFreeByHours, ea_lineLength, ea_lineChar, Option.some.injEq, Prod.mk.injEq, Except.ok.injEq, and_true, true_and, decide_eq_true_eq, decide_eq_false_iff_not, Bool.not_eq_true', Bool.not_eq_false', eq_self, decide_true, Decidable.not_not, Bool.not_eq_false, Bool.not_eq_true, Bool.true_eq_false, Bool.false_eq_true, not_true_eq_false, not_false_eq_true, decide_false, Bool.not_true, Bool.not_false, ite_true, ite_false, I_lt, I_le, I_inj]) <;> (first | done | rfl | exact congrArg I (by omega) | omega)
    · have e := vca j (by omega) (by omega)
      refine E_b (I (sgv (zS L) p a (j + 1))) L ?_ ?_
      · show _ = some (Except.ok (I (orb (sgv (zS L) p a j) (lastTo (chgC (zS L) p a j) (mf (zS L) 3).toNat))), L)
        rw [← I_orb]
        unfold bitI
        (simp (disch := omega) only [lb_lp, lb_as, lp_ap, lgo_ok, lb_lq, lq_ap, I_add, I_sub, ev_n, ea_n, ev_k, ea_k, ev_g0, ea_g0, ev_g1, ea_g1, ev_div, ea_div, ev_rem, ea_rem, ev_low, ea_low, gl0, gl1, b2i_ne, b2i_eq, ev_common, ev_local, ev_kindOf, ev_receiver, ev_isThere, ev_sequence, ev_dates, ev_dateAt, ev_begin, ev_ownAnswer, ev_isAsked, ev_answerOf, ev_answerByLog, ev_agrees, ev_proposals, ev_proposalAt, ev_rank, ev_mark, ev_changes, ev_changeAt, ev_firstFree, ev_firstFreeByHours, ev_lineLength, ev_lineChar, ea_common, ea_local, ea_kindOf, ea_receiver, ea_isThere, ea_sequence, ea_dates, ea_dateAt, ea_begin, ea_ownAnswer, ea_isAsked, ea_answerOf, ea_answerByLog, ea_agrees, ea_proposals, ea_proposalAt, ea_rank, ea_mark, ea_changes, ea_changeAt, ea_firstFree, ea_firstFreeByHours, ea_lineLength, ea_lineChar, e, gl31, Option.some.injEq, Prod.mk.injEq, Except.ok.injEq, and_true, true_and, decide_eq_true_eq, decide_eq_false_iff_not, Bool.not_eq_true', Bool.not_eq_false', eq_self, decide_true, Decidable.not_not, Bool.not_eq_false, Bool.not_eq_true, Bool.true_eq_false, Bool.false_eq_true, not_true_eq_false, not_false_eq_true, decide_false, Bool.not_true, Bool.not_false, ite_true, ite_false, I_lt, I_le, I_inj]) <;> (first | done | rfl | exact congrArg I (by omega) | omega)
      · show some (Except.ok (I (sgv (zS L) p a (j + 1)), I (j : Int) + 1), L) = some (Except.ok (I (sgv (zS L) p a (j + 1)), I ((j + 1 : Nat) : Int)), L)
        rw [gl1, I_add, show (j : Int) + 1 = ((j + 1 : Nat) : Int) by omega]
    · (simp (disch := omega) only [lb_lp, lb_as, lp_ap, lgo_ok, lb_lq, lq_ap, I_add, I_sub, ev_n, ea_n, ev_k, ea_k, ev_g0, ea_g0, ev_g1, ea_g1, ev_div, ea_div, ev_rem, ea_rem, ev_low, ea_low, gl0, gl1, b2i_ne, b2i_eq, ev_common, ev_local, ev_kindOf, ev_receiver, ev_isThere, ev_sequence, ev_dates, ev_dateAt, ev_begin, ev_ownAnswer, ev_isAsked, ev_answerOf, ev_answerByLog, ev_agrees, ev_proposals, ev_proposalAt, ev_rank, ev_mark, ev_changes, ev_changeAt, ev_firstFree, ev_firstFreeByHours, ev_lineLength, ev_lineChar, ea_common, ea_local, ea_kindOf, ea_receiver, ea_isThere, ea_sequence, ea_dates, ea_dateAt, ea_begin, ea_ownAnswer, ea_isAsked, ea_answerOf, ea_answerByLog, ea_agrees, ea_proposals, ea_proposalAt, ea_rank, ea_mark, ea_changes, ea_changeAt, ea_firstFree, ea_firstFreeByHours, ea_lineLength, ea_lineChar, Option.some.injEq, Prod.mk.injEq, Except.ok.injEq, and_true, true_and, decide_eq_true_eq, decide_eq_false_iff_not, Bool.not_eq_true', Bool.not_eq_false', eq_self, decide_true, Decidable.not_not, Bool.not_eq_false, Bool.not_eq_true, Bool.true_eq_false, Bool.false_eq_true, not_true_eq_false, not_false_eq_true, decide_false, Bool.not_true, Bool.not_false, ite_true, ite_false, I_lt, I_le, I_inj]) <;> (first | done | rfl | exact congrArg I (by omega) | omega)
  refine E_b (I 0) L rfl ?_
  refine E_b (I 0) L rfl ?_
  refine E_b (I N, I (mf (zS L) 3)) L ?_ ?_
  · refine ll_run2 (fun j => (I (cnt (abC (zS L) p a) j), I (j : Int))) (fun _ => L) (mf (zS L) 3).toNat rfl rfl (pr2 hN (by omega)) rfl (fun j hj => ?_) (fun j hj => ?_) ?_ (by omega)
    · (simp (disch := omega) only [lb_lp, lb_as, lp_ap, lgo_ok, lb_lq, lq_ap, I_add, I_sub, ev_n, ea_n, ev_k, ea_k, ev_g0, ea_g0, ev_g1, ea_g1, ev_div, ea_div, ev_rem, ea_rem, ev_low, ea_low, gl0, gl1, b2i_ne, b2i_eq, ev_common, ev_local, ev_kindOf, ev_receiver, ev_isThere, ev_sequence, ev_dates, ev_dateAt, ev_begin, ev_ownAnswer, ev_isAsked, ev_answerOf, ev_answerByLog, ev_agrees, ev_proposals, ev_proposalAt, ev_rank, ev_mark, ev_changes, ev_changeAt, ev_firstFree, ev_firstFreeByHours, ev_lineLength, ev_lineChar, ea_common, ea_local, ea_kindOf, ea_receiver, ea_isThere, ea_sequence, ea_dates, ea_dateAt, ea_begin, ea_ownAnswer, ea_isAsked, ea_answerOf, ea_answerByLog, ea_agrees, ea_proposals, ea_proposalAt, ea_rank, ea_mark, ea_changes, ea_changeAt, ea_firstFree, ea_firstFreeByHours, ea_lineLength, ea_lineChar, hg0, Option.some.injEq, Prod.mk.injEq, Except.ok.injEq, and_true, true_and, decide_eq_true_eq, decide_eq_false_iff_not, Bool.not_eq_true', Bool.not_eq_false', eq_self, decide_true, Decidable.not_not, Bool.not_eq_false, Bool.not_eq_true, Bool.true_eq_false, Bool.false_eq_true, not_true_eq_false, not_false_eq_true, decide_false, Bool.not_true, Bool.not_false, ite_true, ite_false, I_lt, I_le, I_inj]) <;> (first | done | rfl | exact congrArg I (by omega) | omega)
    · have e := sgv_ab h.si p0 p1 hlr.1 j hj
      rw [hN] at e
      refine E_b (I (cnt (abC (zS L) p a) (j + 1))) L ?_ ?_
      · rw [cnt_s, ← e, ← I_add, ← bit_v]
        (simp (disch := omega) only [lb_lp, lb_as, lp_ap, lgo_ok, lb_lq, lq_ap, I_add, I_sub, ev_n, ea_n, ev_k, ea_k, ev_g0, ea_g0, ev_g1, ea_g1, ev_div, ea_div, ev_rem, ea_rem, ev_low, ea_low, gl0, gl1, b2i_ne, b2i_eq, ev_common, ev_local, ev_kindOf, ev_receiver, ev_isThere, ev_sequence, ev_dates, ev_dateAt, ev_begin, ev_ownAnswer, ev_isAsked, ev_answerOf, ev_answerByLog, ev_agrees, ev_proposals, ev_proposalAt, ev_rank, ev_mark, ev_changes, ev_changeAt, ev_firstFree, ev_firstFreeByHours, ev_lineLength, ev_lineChar, ea_common, ea_local, ea_kindOf, ea_receiver, ea_isThere, ea_sequence, ea_dates, ea_dateAt, ea_begin, ea_ownAnswer, ea_isAsked, ea_answerOf, ea_answerByLog, ea_agrees, ea_proposals, ea_proposalAt, ea_rank, ea_mark, ea_changes, ea_changeAt, ea_firstFree, ea_firstFreeByHours, ea_lineLength, ea_lineChar, gl31, Option.some.injEq, Prod.mk.injEq, Except.ok.injEq, and_true, true_and, decide_eq_true_eq, decide_eq_false_iff_not, Bool.not_eq_true', Bool.not_eq_false', eq_self, decide_true, Decidable.not_not, Bool.not_eq_false, Bool.not_eq_true, Bool.true_eq_false, Bool.false_eq_true, not_true_eq_false, not_false_eq_true, decide_false, Bool.not_true, Bool.not_false, ite_true, ite_false, I_lt, I_le, I_inj]) <;> (first | done | rfl | exact congrArg I (by omega) | omega)
      · show some (Except.ok (I (cnt (abC (zS L) p a) (j + 1)), I (j : Int) + 1), L) = some (Except.ok (I (cnt (abC (zS L) p a) (j + 1)), I ((j + 1 : Nat) : Int)), L)
        rw [gl1, I_add, show (j : Int) + 1 = ((j + 1 : Nat) : Int) by omega]
    · (simp (disch := omega) only [lb_lp, lb_as, lp_ap, lgo_ok, lb_lq, lq_ap, I_add, I_sub, ev_n, ea_n, ev_k, ea_k, ev_g0, ea_g0, ev_g1, ea_g1, ev_div, ea_div, ev_rem, ea_rem, ev_low, ea_low, gl0, gl1, b2i_ne, b2i_eq, ev_common, ev_local, ev_kindOf, ev_receiver, ev_isThere, ev_sequence, ev_dates, ev_dateAt, ev_begin, ev_ownAnswer, ev_isAsked, ev_answerOf, ev_answerByLog, ev_agrees, ev_proposals, ev_proposalAt, ev_rank, ev_mark, ev_changes, ev_changeAt, ev_firstFree, ev_firstFreeByHours, ev_lineLength, ev_lineChar, ea_common, ea_local, ea_kindOf, ea_receiver, ea_isThere, ea_sequence, ea_dates, ea_dateAt, ea_begin, ea_ownAnswer, ea_isAsked, ea_answerOf, ea_answerByLog, ea_agrees, ea_proposals, ea_proposalAt, ea_rank, ea_mark, ea_changes, ea_changeAt, ea_firstFree, ea_firstFreeByHours, ea_lineLength, ea_lineChar, hg0, Option.some.injEq, Prod.mk.injEq, Except.ok.injEq, and_true, true_and, decide_eq_true_eq, decide_eq_false_iff_not, Bool.not_eq_true', Bool.not_eq_false', eq_self, decide_true, Decidable.not_not, Bool.not_eq_false, Bool.not_eq_true, Bool.true_eq_false, Bool.false_eq_true, not_true_eq_false, not_false_eq_true, decide_false, Bool.not_true, Bool.not_false, ite_true, ite_false, I_lt, I_le, I_inj]) <;> (first | done | rfl | exact congrArg I (by omega) | omega)
  refine E_ret (L1 := L) ?_
  refine E_and (L1 := L) (E_and (L1 := L) (E_and (L1 := L) (E_and (L1 := L) (E_and (L1 := L) ?_ ?_) ?_) ?_) ?_) ?_
  · (simp (disch := omega) only [lb_lp, lb_as, lp_ap, lgo_ok, lb_lq, lq_ap, I_add, I_sub, ev_n, ea_n, ev_k, ea_k, ev_g0, ea_g0, ev_g1, ea_g1, ev_div, ea_div, ev_rem, ea_rem, ev_low, ea_low, gl0, gl1, b2i_ne, b2i_eq, ev_common, ev_local, ev_kindOf, ev_receiver, ev_isThere, ev_sequence, ev_dates, ev_dateAt, ev_begin, ev_ownAnswer, ev_isAsked, ev_answerOf, ev_answerByLog, ev_agrees, ev_proposals, ev_proposalAt, ev_rank, ev_mark, ev_changes, ev_changeAt, ev_firstFree, ev_firstFreeByHours, ev_lineLength, ev_lineChar, ea_common, ea_local, ea_kindOf, ea_receiver, ea_isThere, ea_sequence, ea_dates, ea_dateAt, ea_begin, ea_ownAnswer, ea_isAsked, ea_answerOf, ea_answerByLog, ea_agrees, ea_proposals, ea_proposalAt, ea_rank, ea_mark, ea_changes, ea_changeAt, ea_firstFree, ea_firstFreeByHours, ea_lineLength, ea_lineChar, Option.some.injEq, Prod.mk.injEq, Except.ok.injEq, and_true, true_and, decide_eq_true_eq, decide_eq_false_iff_not, Bool.not_eq_true', Bool.not_eq_false', eq_self, decide_true, Decidable.not_not, Bool.not_eq_false, Bool.not_eq_true, Bool.true_eq_false, Bool.false_eq_true, not_true_eq_false, not_false_eq_true, decide_false, Bool.not_true, Bool.not_false, ite_true, ite_false, I_lt, I_le, I_inj]) <;> (first | done | rfl | exact congrArg I (by omega) | omega)
  · (simp (disch := omega) only [lb_lp, lb_as, lp_ap, lgo_ok, lb_lq, lq_ap, I_add, I_sub, ev_n, ea_n, ev_k, ea_k, ev_g0, ea_g0, ev_g1, ea_g1, ev_div, ea_div, ev_rem, ea_rem, ev_low, ea_low, gl0, gl1, b2i_ne, b2i_eq, ev_common, ev_local, ev_kindOf, ev_receiver, ev_isThere, ev_sequence, ev_dates, ev_dateAt, ev_begin, ev_ownAnswer, ev_isAsked, ev_answerOf, ev_answerByLog, ev_agrees, ev_proposals, ev_proposalAt, ev_rank, ev_mark, ev_changes, ev_changeAt, ev_firstFree, ev_firstFreeByHours, ev_lineLength, ev_lineChar, ea_common, ea_local, ea_kindOf, ea_receiver, ea_isThere, ea_sequence, ea_dates, ea_dateAt, ea_begin, ea_ownAnswer, ea_isAsked, ea_answerOf, ea_answerByLog, ea_agrees, ea_proposals, ea_proposalAt, ea_rank, ea_mark, ea_changes, ea_changeAt, ea_firstFree, ea_firstFreeByHours, ea_lineLength, ea_lineChar, Option.some.injEq, Prod.mk.injEq, Except.ok.injEq, and_true, true_and, decide_eq_true_eq, decide_eq_false_iff_not, Bool.not_eq_true', Bool.not_eq_false', eq_self, decide_true, Decidable.not_not, Bool.not_eq_false, Bool.not_eq_true, Bool.true_eq_false, Bool.false_eq_true, not_true_eq_false, not_false_eq_true, decide_false, Bool.not_true, Bool.not_false, ite_true, ite_false, I_lt, I_le, I_inj]) <;> (first | done | rfl | exact congrArg I (by omega) | omega)
  · (simp (disch := omega) only [lb_lp, lb_as, lp_ap, lgo_ok, lb_lq, lq_ap, I_add, I_sub, ev_n, ea_n, ev_k, ea_k, ev_g0, ea_g0, ev_g1, ea_g1, ev_div, ea_div, ev_rem, ea_rem, ev_low, ea_low, gl0, gl1, b2i_ne, b2i_eq, ev_common, ev_local, ev_kindOf, ev_receiver, ev_isThere, ev_sequence, ev_dates, ev_dateAt, ev_begin, ev_ownAnswer, ev_isAsked, ev_answerOf, ev_answerByLog, ev_agrees, ev_proposals, ev_proposalAt, ev_rank, ev_mark, ev_changes, ev_changeAt, ev_firstFree, ev_firstFreeByHours, ev_lineLength, ev_lineChar, ea_common, ea_local, ea_kindOf, ea_receiver, ea_isThere, ea_sequence, ea_dates, ea_dateAt, ea_begin, ea_ownAnswer, ea_isAsked, ea_answerOf, ea_answerByLog, ea_agrees, ea_proposals, ea_proposalAt, ea_rank, ea_mark, ea_changes, ea_changeAt, ea_firstFree, ea_firstFreeByHours, ea_lineLength, ea_lineChar, hg0, Option.some.injEq, Prod.mk.injEq, Except.ok.injEq, and_true, true_and, decide_eq_true_eq, decide_eq_false_iff_not, Bool.not_eq_true', Bool.not_eq_false', eq_self, decide_true, Decidable.not_not, Bool.not_eq_false, Bool.not_eq_true, Bool.true_eq_false, Bool.false_eq_true, not_true_eq_false, not_false_eq_true, decide_false, Bool.not_true, Bool.not_false, ite_true, ite_false, I_lt, I_le, I_inj]) <;> (first | done | rfl | exact congrArg I (by omega) | omega)
  · (simp (disch := omega) only [lb_lp, lb_as, lp_ap, lgo_ok, lb_lq, lq_ap, I_add, I_sub, ev_n, ea_n, ev_k, ea_k, ev_g0, ea_g0, ev_g1, ea_g1, ev_div, ea_div, ev_rem, ea_rem, ev_low, ea_low, gl0, gl1, b2i_ne, b2i_eq, ev_common, ev_local, ev_kindOf, ev_receiver, ev_isThere, ev_sequence, ev_dates, ev_dateAt, ev_begin, ev_ownAnswer, ev_isAsked, ev_answerOf, ev_answerByLog, ev_agrees, ev_proposals, ev_proposalAt, ev_rank, ev_mark, ev_changes, ev_changeAt, ev_firstFree, ev_firstFreeByHours, ev_lineLength, ev_lineChar, ea_common, ea_local, ea_kindOf, ea_receiver, ea_isThere, ea_sequence, ea_dates, ea_dateAt, ea_begin, ea_ownAnswer, ea_isAsked, ea_answerOf, ea_answerByLog, ea_agrees, ea_proposals, ea_proposalAt, ea_rank, ea_mark, ea_changes, ea_changeAt, ea_firstFree, ea_firstFreeByHours, ea_lineLength, ea_lineChar, Option.some.injEq, Prod.mk.injEq, Except.ok.injEq, and_true, true_and, decide_eq_true_eq, decide_eq_false_iff_not, Bool.not_eq_true', Bool.not_eq_false', eq_self, decide_true, Decidable.not_not, Bool.not_eq_false, Bool.not_eq_true, Bool.true_eq_false, Bool.false_eq_true, not_true_eq_false, not_false_eq_true, decide_false, Bool.not_true, Bool.not_false, ite_true, ite_false, I_lt, I_le, I_inj]) <;> (first | done | rfl | exact congrArg I (by omega) | omega)
  · (simp (disch := omega) only [lb_lp, lb_as, lp_ap, lgo_ok, lb_lq, lq_ap, I_add, I_sub, ev_n, ea_n, ev_k, ea_k, ev_g0, ea_g0, ev_g1, ea_g1, ev_div, ea_div, ev_rem, ea_rem, ev_low, ea_low, gl0, gl1, b2i_ne, b2i_eq, ev_common, ev_local, ev_kindOf, ev_receiver, ev_isThere, ev_sequence, ev_dates, ev_dateAt, ev_begin, ev_ownAnswer, ev_isAsked, ev_answerOf, ev_answerByLog, ev_agrees, ev_proposals, ev_proposalAt, ev_rank, ev_mark, ev_changes, ev_changeAt, ev_firstFree, ev_firstFreeByHours, ev_lineLength, ev_lineChar, ea_common, ea_local, ea_kindOf, ea_receiver, ea_isThere, ea_sequence, ea_dates, ea_dateAt, ea_begin, ea_ownAnswer, ea_isAsked, ea_answerOf, ea_answerByLog, ea_agrees, ea_proposals, ea_proposalAt, ea_rank, ea_mark, ea_changes, ea_changeAt, ea_firstFree, ea_firstFreeByHours, ea_lineLength, ea_lineChar, q9, Option.some.injEq, Prod.mk.injEq, Except.ok.injEq, and_true, true_and, decide_eq_true_eq, decide_eq_false_iff_not, Bool.not_eq_true', Bool.not_eq_false', eq_self, decide_true, Decidable.not_not, Bool.not_eq_false, Bool.not_eq_true, Bool.true_eq_false, Bool.false_eq_true, not_true_eq_false, not_false_eq_true, decide_false, Bool.not_true, Bool.not_false, ite_true, ite_false, I_lt, I_le, I_inj]) <;> (first | done | rfl | exact congrArg I (by omega) | omega)
  · by_cases c0 : a = 0
    · exact E_or1 (E_or1 (by (simp (disch := omega) only [lb_lp, lb_as, lp_ap, lgo_ok, lb_lq, lq_ap, I_add, I_sub, ev_n, ea_n, ev_k, ea_k, ev_g0, ea_g0, ev_g1, ea_g1, ev_div, ea_div, ev_rem, ea_rem, ev_low, ea_low, gl0, gl1, b2i_ne, b2i_eq, ev_common, ev_local, ev_kindOf, ev_receiver, ev_isThere, ev_sequence, ev_dates, ev_dateAt, ev_begin, ev_ownAnswer, ev_isAsked, ev_answerOf, ev_answerByLog, ev_agrees, ev_proposals, ev_proposalAt, ev_rank, ev_mark, ev_changes, ev_changeAt, ev_firstFree, ev_firstFreeByHours, ev_lineLength, ev_lineChar, ea_common, ea_local, ea_kindOf, ea_receiver, ea_isThere, ea_sequence, ea_dates, ea_dateAt, ea_begin, ea_ownAnswer, ea_isAsked, ea_answerOf, ea_answerByLog, ea_agrees, ea_proposals, ea_proposalAt, ea_rank, ea_mark, ea_changes, ea_changeAt, ea_firstFree, ea_firstFreeByHours, ea_lineLength, ea_lineChar, Option.some.injEq, Prod.mk.injEq, Except.ok.injEq, and_true, true_and, decide_eq_true_eq, decide_eq_false_iff_not, Bool.not_eq_true', Bool.not_eq_false', eq_self, decide_true, Decidable.not_not, Bool.not_eq_false, Bool.not_eq_true, Bool.true_eq_false, Bool.false_eq_true, not_true_eq_false, not_false_eq_true, decide_false, Bool.not_true, Bool.not_false, ite_true, ite_false, I_lt, I_le, I_inj]) <;> (first | done | rfl | exact congrArg I (by omega) | omega)))
    · have f1 := fl (a - 1) (by omega) (by omega)
      by_cases c1 : ma (zS L) 28 p ≤ a - 1
      · rw [if_pos c1] at f1
        have le : N ≤ cnt (abC (zS L) p (a - 1)) (mf (zS L) 3).toNat := by
          rw [← hN]
          exact (cnt_lt (mf (zS L) 3).toNat (fun k k0 k1 q => decide_eq_true (by have : a < ma (zS L) 26 (8 * p + k) := of_decide_eq_true q; omega))).1
        have cr1 := cnt_r (abC (zS L) p (a - 1)) (mf (zS L) 3).toNat
        exact E_or2 (L1 := L) (E_or2 (L1 := L) (by (simp (disch := omega) only [lb_lp, lb_as, lp_ap, lgo_ok, lb_lq, lq_ap, I_add, I_sub, ev_n, ea_n, ev_k, ea_k, ev_g0, ea_g0, ev_g1, ea_g1, ev_div, ea_div, ev_rem, ea_rem, ev_low, ea_low, gl0, gl1, b2i_ne, b2i_eq, ev_common, ev_local, ev_kindOf, ev_receiver, ev_isThere, ev_sequence, ev_dates, ev_dateAt, ev_begin, ev_ownAnswer, ev_isAsked, ev_answerOf, ev_answerByLog, ev_agrees, ev_proposals, ev_proposalAt, ev_rank, ev_mark, ev_changes, ev_changeAt, ev_firstFree, ev_firstFreeByHours, ev_lineLength, ev_lineChar, ea_common, ea_local, ea_kindOf, ea_receiver, ea_isThere, ea_sequence, ea_dates, ea_dateAt, ea_begin, ea_ownAnswer, ea_isAsked, ea_answerOf, ea_answerByLog, ea_agrees, ea_proposals, ea_proposalAt, ea_rank, ea_mark, ea_changes, ea_changeAt, ea_firstFree, ea_firstFreeByHours, ea_lineLength, ea_lineChar, Option.some.injEq, Prod.mk.injEq, Except.ok.injEq, and_true, true_and, decide_eq_true_eq, decide_eq_false_iff_not, Bool.not_eq_true', Bool.not_eq_false', eq_self, decide_true, Decidable.not_not, Bool.not_eq_false, Bool.not_eq_true, Bool.true_eq_false, Bool.false_eq_true, not_true_eq_false, not_false_eq_true, decide_false, Bool.not_true, Bool.not_false, ite_true, ite_false, I_lt, I_le, I_inj]) <;> (first | done | rfl | exact congrArg I (by omega) | omega)) (by (simp (disch := omega) only [lb_lp, lb_as, lp_ap, lgo_ok, lb_lq, lq_ap, I_add, I_sub, ev_n, ea_n, ev_k, ea_k, ev_g0, ea_g0, ev_g1, ea_g1, ev_div, ea_div, ev_rem, ea_rem, ev_low, ea_low, gl0, gl1, b2i_ne, b2i_eq, ev_common, ev_local, ev_kindOf, ev_receiver, ev_isThere, ev_sequence, ev_dates, ev_dateAt, ev_begin, ev_ownAnswer, ev_isAsked, ev_answerOf, ev_answerByLog, ev_agrees, ev_proposals, ev_proposalAt, ev_rank, ev_mark, ev_changes, ev_changeAt, ev_firstFree, ev_firstFreeByHours, ev_lineLength, ev_lineChar, ea_common, ea_local, ea_kindOf, ea_receiver, ea_isThere, ea_sequence, ea_dates, ea_dateAt, ea_begin, ea_ownAnswer, ea_isAsked, ea_answerOf, ea_answerByLog, ea_agrees, ea_proposals, ea_proposalAt, ea_rank, ea_mark, ea_changes, ea_changeAt, ea_firstFree, ea_firstFreeByHours, ea_lineLength, ea_lineChar, f1, Option.some.injEq, Prod.mk.injEq, Except.ok.injEq, and_true, true_and, decide_eq_true_eq, decide_eq_false_iff_not, Bool.not_eq_true', Bool.not_eq_false', eq_self, decide_true, Decidable.not_not, Bool.not_eq_false, Bool.not_eq_true, Bool.true_eq_false, Bool.false_eq_true, not_true_eq_false, not_false_eq_true, decide_false, Bool.not_true, Bool.not_false, ite_true, ite_false, I_lt, I_le, I_inj]) <;> (first | done | rfl | exact congrArg I (by omega) | omega))) (by (simp (disch := omega) only [lb_lp, lb_as, lp_ap, lgo_ok, lb_lq, lq_ap, I_add, I_sub, ev_n, ea_n, ev_k, ea_k, ev_g0, ea_g0, ev_g1, ea_g1, ev_div, ea_div, ev_rem, ea_rem, ev_low, ea_low, gl0, gl1, b2i_ne, b2i_eq, ev_common, ev_local, ev_kindOf, ev_receiver, ev_isThere, ev_sequence, ev_dates, ev_dateAt, ev_begin, ev_ownAnswer, ev_isAsked, ev_answerOf, ev_answerByLog, ev_agrees, ev_proposals, ev_proposalAt, ev_rank, ev_mark, ev_changes, ev_changeAt, ev_firstFree, ev_firstFreeByHours, ev_lineLength, ev_lineChar, ea_common, ea_local, ea_kindOf, ea_receiver, ea_isThere, ea_sequence, ea_dates, ea_dateAt, ea_begin, ea_ownAnswer, ea_isAsked, ea_answerOf, ea_answerByLog, ea_agrees, ea_proposals, ea_proposalAt, ea_rank, ea_mark, ea_changes, ea_changeAt, ea_firstFree, ea_firstFreeByHours, ea_lineLength, ea_lineChar, f1, Option.some.injEq, Prod.mk.injEq, Except.ok.injEq, and_true, true_and, decide_eq_true_eq, decide_eq_false_iff_not, Bool.not_eq_true', Bool.not_eq_false', eq_self, decide_true, Decidable.not_not, Bool.not_eq_false, Bool.not_eq_true, Bool.true_eq_false, Bool.false_eq_true, not_true_eq_false, not_false_eq_true, decide_false, Bool.not_true, Bool.not_false, ite_true, ite_false, I_lt, I_le, I_inj]) <;> (first | done | rfl | exact congrArg I (by omega) | omega))
      · rw [if_neg c1] at f1
        exact E_or1 (E_or2 (L1 := L) (by (simp (disch := omega) only [lb_lp, lb_as, lp_ap, lgo_ok, lb_lq, lq_ap, I_add, I_sub, ev_n, ea_n, ev_k, ea_k, ev_g0, ea_g0, ev_g1, ea_g1, ev_div, ea_div, ev_rem, ea_rem, ev_low, ea_low, gl0, gl1, b2i_ne, b2i_eq, ev_common, ev_local, ev_kindOf, ev_receiver, ev_isThere, ev_sequence, ev_dates, ev_dateAt, ev_begin, ev_ownAnswer, ev_isAsked, ev_answerOf, ev_answerByLog, ev_agrees, ev_proposals, ev_proposalAt, ev_rank, ev_mark, ev_changes, ev_changeAt, ev_firstFree, ev_firstFreeByHours, ev_lineLength, ev_lineChar, ea_common, ea_local, ea_kindOf, ea_receiver, ea_isThere, ea_sequence, ea_dates, ea_dateAt, ea_begin, ea_ownAnswer, ea_isAsked, ea_answerOf, ea_answerByLog, ea_agrees, ea_proposals, ea_proposalAt, ea_rank, ea_mark, ea_changes, ea_changeAt, ea_firstFree, ea_firstFreeByHours, ea_lineLength, ea_lineChar, Option.some.injEq, Prod.mk.injEq, Except.ok.injEq, and_true, true_and, decide_eq_true_eq, decide_eq_false_iff_not, Bool.not_eq_true', Bool.not_eq_false', eq_self, decide_true, Decidable.not_not, Bool.not_eq_false, Bool.not_eq_true, Bool.true_eq_false, Bool.false_eq_true, not_true_eq_false, not_false_eq_true, decide_false, Bool.not_true, Bool.not_false, ite_true, ite_false, I_lt, I_le, I_inj]) <;> (first | done | rfl | exact congrArg I (by omega) | omega)) (by (simp (disch := omega) only [lb_lp, lb_as, lp_ap, lgo_ok, lb_lq, lq_ap, I_add, I_sub, ev_n, ea_n, ev_k, ea_k, ev_g0, ea_g0, ev_g1, ea_g1, ev_div, ea_div, ev_rem, ea_rem, ev_low, ea_low, gl0, gl1, b2i_ne, b2i_eq, ev_common, ev_local, ev_kindOf, ev_receiver, ev_isThere, ev_sequence, ev_dates, ev_dateAt, ev_begin, ev_ownAnswer, ev_isAsked, ev_answerOf, ev_answerByLog, ev_agrees, ev_proposals, ev_proposalAt, ev_rank, ev_mark, ev_changes, ev_changeAt, ev_firstFree, ev_firstFreeByHours, ev_lineLength, ev_lineChar, ea_common, ea_local, ea_kindOf, ea_receiver, ea_isThere, ea_sequence, ea_dates, ea_dateAt, ea_begin, ea_ownAnswer, ea_isAsked, ea_answerOf, ea_answerByLog, ea_agrees, ea_proposals, ea_proposalAt, ea_rank, ea_mark, ea_changes, ea_changeAt, ea_firstFree, ea_firstFreeByHours, ea_lineLength, ea_lineChar, f1, Option.some.injEq, Prod.mk.injEq, Except.ok.injEq, and_true, true_and, decide_eq_true_eq, decide_eq_false_iff_not, Bool.not_eq_true', Bool.not_eq_false', eq_self, decide_true, Decidable.not_not, Bool.not_eq_false, Bool.not_eq_true, Bool.true_eq_false, Bool.false_eq_true, not_true_eq_false, not_false_eq_true, decide_false, Bool.not_true, Bool.not_false, ite_true, ite_false, I_lt, I_le, I_inj]) <;> (first | done | rfl | exact congrArg I (by omega) | omega)))
end C95b
