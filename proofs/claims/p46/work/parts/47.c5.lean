section C5
variable {sv : Nat} {G : GM} {S : MS} {m : QM} {t : Int}
def dlB (S : MS) (B : Int) : Int := if B = -1 then -1 else if ma S 38 B = 4 then ma S 40 B else -1
def dlg (S : MS) (i p : Int) : Int := dlB S (kept S i p (-1))
theorem dlB_r {B : Int} (hw : WR t S) (hB : RN S B) : -1 ≤ dlB S B ∧ dlB S B < 5 := by
  unfold dlB
  rcases hB with e | ⟨b0, b1, b2⟩
  · rw [if_pos e]; omega
  · have hx := hw.ms b0 b1
    rw [if_neg (by omega)]
    split <;> omega
theorem kept_RN (hw : WR t S) (hr : RP S) (i p d : Int) : RN S (kept S i p d) := isB_RN (kept_is hw hr i p d) (fun k hk => (cK_r hk).1)
theorem c_delegateBy {B : Int} (h : CR sv G S m) (hB : RN S B) : F_X1_delegateBy (oad G B) m = some (.ok (I (dlB S B)), m) := by
  unfold F_X1_delegateBy dlB
  simp only [xb_xp, oad_dec0]
  rcases hB with e | ⟨b0, b1, b2⟩
  · rw [decide_eq_true e, if_pos rfl, if_pos e, xp_ap, glm1]
  · rw [decide_eq_false (by omega), if_neg (by decide), if_neg (by omega), oad_some (by omega), x_gi rfl (h.mg B b0 b1).ty ((h.mg B b0 b1).f8 b2)]
theorem askStep_d {i set k : Int} (hw : WR t S) (hr : RP S) : askStep S i set k = if (decide (¬ dlg S i k = -1) && hb set k && !hb (ma S 18 (ma S 5 i)) (dlg S i k)) = true then orb set (dlg S i k) else set := by
  unfold askStep
  have hk := kept_RN hw hr i k (-1)
  rcases hk with e | ⟨b0, b1, b2⟩
  · have ed : dlg S i k = -1 := if_pos e
    rw [ed, show decide (¬ kept S i k (-1) = -1) = false from decide_eq_false (fun q => q e), show decide (¬ (-1 : Int) = -1) = false from rfl]
    simp only [Bool.and_false, Bool.false_and, Bool.and_true, Bool.true_and, Bool.false_eq_true, if_false]
  · have hx := hw.ms b0 b1
    rw [show decide (¬ kept S i k (-1) = -1) = true from decide_eq_true (by omega)]
    by_cases c : ma S 38 (kept S i k (-1)) = 4
    · have ed : dlg S i k = ma S 40 (kept S i k (-1)) := (if_neg (by omega)).trans (if_pos c)
      rw [ed, decide_eq_true c, show decide (¬ ma S 40 (kept S i k (-1)) = -1) = true from decide_eq_true (by omega)]
      simp only [Bool.and_false, Bool.false_and, Bool.and_true, Bool.true_and, Bool.false_eq_true, if_false]
    · have ed : dlg S i k = -1 := (if_neg (by omega)).trans (if_neg c)
      rw [ed, decide_eq_false c, show decide (¬ (-1 : Int) = -1) = false from rfl]
      simp only [Bool.and_false, Bool.false_and, Bool.and_true, Bool.true_and, Bool.false_eq_true, if_false]
def wrR (m : QM) (a : Nat) (D : Int → Int) : Nat → QM
  | 0 => m
  | j + 1 => sai (wrR m a D j) a j (I (D j))
theorem wrR_sc {D : Int → Int} : ∀ j, SC sv m (wrR m (sv + 5) D j) := by
  intro j
  induction j with
  | zero => exact SC.refl _ _
  | succ j ih => exact ih.trans (SC.sai sv _ (Or.inl rfl))
theorem wrR_get {a : Nat} {D : Int → Int} : ∀ j p : Nat, p < j → qai (wrR m a D j) a p = I (D p) := by
  intro j
  induction j with
  | zero => exact fun p hp => absurd hp (Nat.not_lt_zero _)
  | succ j ih =>
    intro p hp
    show va_up (qai (wrR m a D j)) a (va_up (qai (wrR m a D j) a) j (I (D j))) a p = _
    rw [va_up_same]
    by_cases e : p = j
    · subst e; rw [va_up_same]
    · rw [va_up_diff _ _ e]; exact ih p (by omega)
theorem c_askedIf {i : Int} (h : CR sv G S m) (hw : WR t S) (hr : RP S) (hi : 0 ≤ i) (hi' : i < mf S 3) (hD : ∀ p : Int, 0 ≤ p → p < 5 → qai m (sv + 5) p.toNat = I (dlg S i p)) : F_X0_askedIf (am G i) (some (sv + 5)) m = some (.ok (I (asked S i)), m) := by
  have hm := h.mt i hi hi'
  have hx := hw.mt hi hi'
  have hs := hw.vs hx.2.1.1 hx.2.1.2
  unfold F_X0_askedIf asked
  simp only [xb_xp, xb_as]
  rw [ym2 hm, yv14 hm.now]
  refine Eq.trans (xb_ok (xl_run (fun j => (I (askAll S i (ma S 17 (ma S 5 i)) j), I j)) (fun _ => m) 5 2000 (fun j hj => ?_) (fun j hj => ?_) ?_ (by decide))) rfl
  · rw [xp_ap, gl5, d_lt (by omega) (by omega) (by omega) (by omega), decide_eq_true (by omega)]
  · have hr1 := askAll_r (i := i) hw hs.2.2.2.2.2.2.2.2.2.1.1 hs.2.2.2.2.2.2.2.2.2.1.2 j
    show xb _ _ m = some (.ok (I (askRow S i (askAll S i (ma S 17 (ma S 5 i)) j) 5), I (j + 1 : Nat)), m)
    generalize askAll S i (ma S 17 (ma S 5 i)) j = set at hr1 ⊢
    refine Eq.trans (xb_ok (xl_run (fun k => (I (askRow S i set k), I k)) (fun _ => m) 5 2000 (fun k hk => ?_) (fun k hk => ?_) ?_ (by decide))) ?_
    · rw [xb_ok (x_len h.cf.t5 (by decide)), xp_ap, d_lt (by omega) (by omega) (by omega) (by omega), decide_eq_true (by omega)]
    · have hk1 := askRow_r (i := i) hw hr1.1 hr1.2 k
      have es : askRow S i set (k + 1) = askStep S i (askRow S i set k) k := rfl
      have hd := dlB_r hw (kept_RN hw hr i k (-1))
      rw [show dlB S (kept S i k (-1)) = dlg S i k from rfl] at hd
      rw [es, askStep_d hw hr]
      generalize askRow S i set k = s2 at hk1 ⊢
      rw [xb_ok (x_ai h.cf.t5 (by decide) (by omega) (by omega) (hD k (by omega) (by omega)))]
      rw [glm1, d_ne (by omega) (by omega) (by omega) (by omega), xb_ok (xif_and (b := hb s2 k) (fun _ => by rw [c_isIn, xb_xp, b2ne, xp_ap]))]
      rw [xb_ok (xif_and (b := !hb (ma S 18 (ma S 5 i)) (dlg S i k)) (fun _ => by rw [ym2 hm, yv15 hm.now, c_isIn, xb_xp, b2ne, xp_ap]))]
      rw [ite_xp, xb_xp, show (I s2 ||| (1 : Int32) <<< (I (dlg S i k) &&& 31)) = I (orb s2 (dlg S i k)) from I_orb s2 (dlg S i k), xp_ap, gl1, I_add]
      have ei : ∀ (c : Prop) [Decidable c] (x y : Int), (if c then I x else I y) = I (if c then x else y) := fun c _ x y => by by_cases q : c <;> simp only [q, if_true, if_false]
      rw [ei]; rfl
    · rw [xb_ok (x_len h.cf.t5 (by decide)), xp_ap, d_lt (by omega) (by omega) (by omega) (by omega), decide_eq_false (by omega)]
    · show xp _ m = _
      rw [xp_ap, gl1, I_add]; rfl
  · rw [xp_ap, gl5, d_lt (by omega) (by omega) (by omega) (by omega), decide_eq_false (by omega)]
theorem c_askedOf {i : Int} (h : CR sv G S m) (hw : WR t S) (hr : RP S) (hi : 0 ≤ i) (hi' : i < mf S 3) : ∃ m', F_X6_askedOf sv (some (am G i)) m = some (.ok (I (asked S i)), m') ∧ SC sv m m' := by
  have sc : ∀ j, SC sv m (wrR m (sv + 5) (dlg S i) j) := fun j => wrR_sc j
  refine ⟨wrR m (sv + 5) (dlg S i) 5, ?_, sc 5⟩
  unfold F_X6_askedOf
  simp only [xb_xp, xb_as]
  refine Eq.trans (xb_ok (xl_run (fun j => I j) (fun j => wrR m (sv + 5) (dlg S i) j) 5 2000 (fun j hj => ?_) (fun j hj => ?_) ?_ (by decide))) ?_
  · rw [xp_ap, gl5, d_lt (by omega) (by omega) (by omega) (by omega), decide_eq_true (by omega)]
  · have hC := h.sc (sc j)
    have hm := hC.mt i hi hi'
    rw [ys7 hC.cf, ym5 hm, glm1, ok6_b hm, xb_ok (c_kept6 hC hi hi' (p := j) (d := -1) (by omega) (by omega) (by omega) (by omega)), xb_ok (c_delegateBy hC (kept_RN hw hr i j (-1)))]
    rw [xb_ok (x_sai hC.cf.t5 (by decide) (by omega) (by omega)), xp_ap, gl1, I_add]; rfl
  · rw [xp_ap, gl5, d_lt (by omega) (by omega) (by omega) (by omega), decide_eq_false (by omega)]
  · have hC := h.sc (sc 5)
    have hm := hC.mt i hi hi'
    rw [ys7 hC.cf, om hm]
    exact c_askedIf hC hw hr hi hi' (fun p h0 h1 => by
      rw [wrR_get 5 p.toNat (by omega), show ((p.toNat : Nat) : Int) = p by omega])
theorem am_dec {a i : Int} (h : CR sv G S m) (h0 : 0 ≤ a) (h1 : a < mf S 3) (h2 : 0 ≤ i) (h3 : i < mf S 3) : decide (some (am G a) = some (am G i)) = decide (a = i) := by
  apply decide_eq_decide.mpr
  constructor
  · intro q
    have q := Option.some.inj q
    by_cases e : a = i
    · exact e
    · rcases Int.lt_or_lt_of_ne e with z | z
      · have := h.mi a i h0 z h3; omega
      · have := h.mi i a h2 z h1; omega
  · intro q; rw [q]
theorem c_newestInLog {i p d : Int} (h : CR sv G S m) (hw : WR t S) (hr : RP S) (hi : 0 ≤ i) (hi' : i < mf S 3) (hp : 0 ≤ p) (hp' : p < 5) (h0 : -1 ≤ d) (h1 : d < 60) : F_X6_newestInLog sv (some (am G i)) (I p) (I d) m = some (.ok (oad G (kept S i p d)), m) := by
  have hn := hw.nn
  unfold F_X6_newestInLog kept
  simp only [xb_xp, xb_as]
  refine Eq.trans (xb_ok (xl_run (fun j => (oad G (bestTo S (cK S i p d) j), I j)) (fun _ => m) (mf S 29).toNat 2000 (fun j hj => ?_) (fun j hj => ?_) ?_ (by omega))) rfl
  · rw [ys5 h, xp_ap, d_lt (by omega) (by omega) (by omega) (by omega), decide_eq_true (by omega)]
  · have hg := h.mg j (by omega) (by omega)
    have hk := hw.ms (k := (j : Int)) (by omega) (by omega)
    have hb : RN S (bestTo S (cK S i p d) j) := (bestTo_r S (cK S i p d) j).elim Or.inl (fun q => Or.inr ⟨q.1, by omega, (cK_r q.2.2).1⟩)
    have es : bestTo S (cK S i p d) (j + 1) = if (cK S i p d j && later S j (bestTo S (cK S i p d) j)) = true then (j : Int) else bestTo S (cK S i p d) j := rfl
    rw [es]
    generalize bestTo S (cK S i p d) j = f at hb ⊢
    rw [ys3 h.cf, yg h (by omega) (by omega) (by omega), yg0 hg, gl1, d_eq (by omega) (by omega) (by omega) (by omega)]
    rw [xb_ok (xif_and (b := decide (¬ ma S 42 j = 0)) (fun q => by
      have q := of_decide_eq_true q
      rw [yg10 hg (by omega), xp_ap, gl0, d_ne (by omega) (by omega) (by omega) (by omega)]))]
    rw [xb_ok (xif_and (b := decide (ma S 34 j = i)) (fun _ => by rw [yg1 hg, xp_ap, am_dec h (by omega) (by omega) hi hi']))]
    rw [xb_ok (xif_and (b := decide (ma S 32 j = p)) (fun _ => by rw [yg2 hg, xp_ap, d_eq (by omega) (by omega) (by omega) (by omega)]))]
    rw [xb_ok (xif_and (b := decide (ma S 37 j = d)) (fun _ => by rw [yg5 hg, xp_ap, d_eq (by omega) (by omega) (by omega) (by omega)]))]
    rw [xb_ok (xif_and (b := later S j f) (fun q => by
      simp only [Bool.and_eq_true, decide_eq_true_eq] at q
      rw [og_b hg, xb_ok (c_newer h hw (by omega) (by omega) q.1.1.1.1 hb), xp_ap, b2ne]))]
    rw [← oad_some (G := G) (show (j : Int) ≠ -1 by omega), ite_xp, oad_ite, xb_xp, xp_ap, I_add]; rfl
  · rw [ys5 h, xp_ap, d_lt (by omega) (by omega) (by omega) (by omega), decide_eq_false (by omega)]
end C5
