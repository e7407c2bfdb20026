def setW (m : QM) (a : Nat) (w : Nat → Int32) : QM := (m.1, m.2.1, m.2.2.1, m.2.2.2.1, va_up m.2.2.2.2.1 a w, m.2.2.2.2.2)
theorem va_up_up {α : Type} (f : Nat → α) (k : Nat) (x y : α) : va_up (va_up f k x) k y = va_up f k y := by
  funext j
  by_cases e : j = k
  · subst e; rw [va_up_same, va_up_same]
  · rw [va_up_diff _ _ e, va_up_diff _ _ e, va_up_diff _ _ e]
theorem sai_setW (m : QM) (a : Nat) (w : Nat → Int32) (n : Nat) (x : Int32) : sai (setW m a w) a n x = setW m a (va_up w n x) := by
  show (m.1, m.2.1, m.2.2.1, m.2.2.2.1, va_up (va_up m.2.2.2.2.1 a w) a (va_up (va_up m.2.2.2.2.1 a w a) n x), m.2.2.2.2.2) = _
  rw [va_up_up, va_up_same]; rfl
theorem setW_id (m : QM) (a : Nat) : setW m a (qai m a) = m := by
  have : va_up m.2.2.2.2.1 a (qai m a) = m.2.2.2.2.1 := by
    funext j
    by_cases e : j = a
    · subst e; rw [va_up_same]; rfl
    · rw [va_up_diff _ _ e]
  show (m.1, m.2.1, m.2.2.1, m.2.2.2.1, va_up m.2.2.2.2.1 a (qai m a), m.2.2.2.2.2) = m
  rw [this]
theorem setW_sc (sv : Nat) (m : QM) (w : Nat → Int32) : SC sv m (setW m (sv + 6) w) := ⟨rfl, rfl, rfl, rfl, rfl, rfl, rfl, fun b _ p => va_up_diff _ _ p⟩
def Rw (m : QM) (a : Nat) (b : Int → Bool) : Nat → Int32 := fun y => if y < 1649 then (if b y = true then 1 else 0) else qai m a y
theorem Rw_ext {m : QM} {a : Nat} {b c : Int → Bool} (h : ∀ y : Int, 0 ≤ y → y < 1649 → b y = c y) : Rw m a b = Rw m a c := by
  funext y
  unfold Rw
  by_cases e : y < 1649
  · rw [if_pos e, if_pos e, h y (by omega) (by omega)]
  · rw [if_neg e, if_neg e]
theorem Rw_put {m : QM} {a : Nat} {b : Int → Bool} {n : Nat} (hn : n < 1649) : va_up (Rw m a b) n 1 = Rw m a (fun y => b y || decide (y = n)) := by
  funext y
  by_cases e : y = n
  · subst e
    rw [va_up_same]
    show (1 : Int32) = if y < 1649 then (if (b (y : Int) || decide ((y : Int) = y)) = true then 1 else 0) else qai m a y
    rw [if_pos hn, decide_eq_true rfl, Bool.or_true]; rfl
  · rw [va_up_diff _ _ e]
    show (if y < 1649 then (if b (y : Int) = true then (1 : Int32) else 0) else qai m a y) = if y < 1649 then (if (b (y : Int) || decide ((y : Int) = n)) = true then 1 else 0) else qai m a y
    rw [decide_eq_false (show ¬ ((y : Nat) : Int) = n by omega), Bool.or_false]
section C11
variable {sv : Nat} {G : GM} {S : MS} {m : QM} {t : Int}
theorem c_fill (h : CR sv G S m) : F_J7_fill_031fb (some (sv + 6)) 0 m = some (.ok (), setW m (sv + 6) (Rw m (sv + 6) (fun _ => false))) := by
  unfold F_J7_fill_031fb
  simp only [xb_xp, xb_as]
  have hT : ∀ j : Nat, j < 1649 → va_up (fun y => if y < j then (0 : Int32) else qai m (sv + 6) y) j 0 = fun y => if y < j + 1 then (0 : Int32) else qai m (sv + 6) y := fun j hj => by
    funext y
    by_cases e : y = j
    · subst e; rw [va_up_same, if_pos (by omega)]
    · rw [va_up_diff _ _ e]
      by_cases c : y < j
      · rw [if_pos c, if_pos (by omega)]
      · rw [if_neg c, if_neg (by omega)]
  have e0 : setW m (sv + 6) (fun y => if y < 0 then (0 : Int32) else qai m (sv + 6) y) = m := by
    rw [show (fun y => if y < 0 then (0 : Int32) else qai m (sv + 6) y) = qai m (sv + 6) from funext fun y => if_neg (Nat.not_lt_zero _), setW_id]
  have e1 : (fun y => if y < 1649 then (0 : Int32) else qai m (sv + 6) y) = Rw m (sv + 6) (fun _ => false) := funext fun y => by
    unfold Rw
    by_cases e : y < 1649
    · rw [if_pos e, if_pos e]; rfl
    · rw [if_neg e, if_neg e]
  rw [xb_ok (x_len h.cf.t6 (by decide)), ← e1]
  have hrun := xl_run (c := fun (s4 : Int32) => xp (decide (s4 < I (1649 : Nat)))) (b := fun (s4 : Int32) => xb (xsab (some (sv + 6)) s4 0) fun _ => xp (s4 + 1)) (fun j => I j) (fun j => setW m (sv + 6) (fun y => if y < j then (0 : Int32) else qai m (sv + 6) y)) 1649 2000 (fun j hj => by rw [xp_ap, d_lt (by omega) (by omega) (by omega) (by omega), decide_eq_true (by omega)]) (fun j hj => by
    have hC := h.sc (setW_sc sv m (fun y => if y < j then (0 : Int32) else qai m (sv + 6) y))
    rw [xb_ok (x_sab hC.cf.t6 (by decide) (by omega) (by omega) (by decide)), xp_ap, gl1, I_add, sai_setW, show ((j : Int)).toNat = j by omega, hT j hj]; rfl) (by rw [xp_ap, d_lt (by omega) (by omega) (by omega) (by omega), decide_eq_false (by omega)]) (by decide)
  rw [e0] at hrun
  exact xb_ok hrun
theorem c_paintHours {b l : Int} {B : Int → Bool} (h : CR sv G S m) (b0 : -48 ≤ b) (b1 : b ≤ 1500) (l0 : 0 ≤ l) (l1 : l ≤ 48) : F_X6_paintHours sv (I b) (I l) (setW m (sv + 6) (Rw m (sv + 6) B)) = some (.ok (), setW m (sv + 6) (Rw m (sv + 6) (fun y => B y || decide (48 + b ≤ y ∧ y < 48 + b + l)))) := by
  unfold F_X6_paintHours
  simp only [xb_xp, xb_as]
  have hrun := xl_run (c := fun (s2 : Int32) => xp (decide (s2 < I b + I l))) (b := fun (s2 : Int32) => xb (if decide ((-48 : Int32) ≤ s2) = true then xp (decide (s2 ≤ (1600 : Int32))) else xp false) fun v => xb (if v = true then xb (xgr 7 8 (some sv)) fun v => xb (xsab v (s2 - -48) 1) fun _ => xp () else xp ()) fun _ => xp (s2 + 1)) (fun j => I (b + j)) (fun j => setW m (sv + 6) (Rw m (sv + 6) (fun y => B y || decide (48 + b ≤ y ∧ y < 48 + b + j)))) l.toNat 2000 (fun j hj => by rw [xp_ap, I_add, d_lt (by omega) (by omega) (by omega) (by omega), decide_eq_true (by omega)]) (fun j hj => by
    have hC := h.sc (setW_sc sv m (Rw m (sv + 6) (fun y => B y || decide (48 + b ≤ y ∧ y < 48 + b + j))))
    rw [show (1600 : Int32) = I 1600 by decide, show (-48 : Int32) = I (-48) by decide, d_le (by omega) (by omega) (by omega) (by omega), d_le (by omega) (by omega) (by omega) (by omega), decide_eq_true (by omega), decide_eq_true (by omega), if_pos rfl, xb_xp, if_pos rfl, xb_as, ys8 hC.cf, I_sub, xb_as, xb_ok (x_sab hC.cf.t6 (by decide) (by omega) (by omega) (by decide)), xb_xp, xp_ap, gl1, I_add, sai_setW, ← gl1, Rw_put (by omega)]
    rw [show b + (j : Int) + 1 = b + ((j + 1 : Nat) : Int) by omega]
    rw [Rw_ext (c := fun y => B y || decide (48 + b ≤ y ∧ y < 48 + b + ((j + 1 : Nat) : Int))) (fun y y0 y1 => by
      rw [Bool.or_assoc, ← Bool.decide_or]
      congr 1
      exact decide_eq_decide.mpr (by omega))]) (by rw [xp_ap, I_add, d_lt (by omega) (by omega) (by omega) (by omega), decide_eq_false (by omega)]) (by omega)
  rw [Rw_ext (b := fun y => B y || decide (48 + b ≤ y ∧ y < 48 + b + ((0 : Nat) : Int))) (c := B) (fun y _ _ => by rw [decide_eq_false (by omega), Bool.or_false]), show b + ((0 : Nat) : Int) = b by omega] at hrun
  refine Eq.trans (xb_ok hrun) ?_
  rw [show ((l.toNat : Nat) : Int) = l by omega]; rfl
def pdg (S : MS) (p i : Int) (d : Int) (B : Int → Bool) : Int → Bool := fun y => if rankFor S p i d = 2 then B y || decide (48 + begOf S (verOf S p i) d ≤ y ∧ y < 48 + begOf S (verOf S p i) d + ma S 13 (verOf S p i)) else B y
theorem pdg_any {p i : Int} {B : Int → Bool} (y : Int) : ∀ n : Nat, fd (hl (datOf S p i)) (pdg S p i) B n y = (B y || anyTo (dayC S p i y) n) := by
  intro n
  induction n with
  | zero => show B y = (B y || false); rw [Bool.or_false]
  | succ n ih =>
    show (if hl (datOf S p i) n = true then pdg S p i n (fd (hl (datOf S p i)) (pdg S p i) B n) else fd (hl (datOf S p i)) (pdg S p i) B n) y = (B y || (anyTo (dayC S p i y) n || dayC S p i y n))
    rw [← Bool.or_assoc, ← ih]
    unfold dayC
    by_cases c : hl (datOf S p i) n = true
    · rw [if_pos c, c, Bool.true_and]
      unfold pdg
      by_cases e : rankFor S p i n = 2
      · simp only [if_pos e, decide_eq_true e, Bool.true_and]
      · simp only [if_neg e, decide_eq_false e, Bool.false_and, Bool.or_false]
    · rw [if_neg c, Bool.eq_false_iff.mpr c, Bool.false_and, Bool.false_and, Bool.or_false]
theorem c_paintIn {p i : Int} {B : Int → Bool} (h : CR sv G S m) (hs : SI t S) (hi : 0 ≤ i) (hi' : i < mf S 3) (hp : 0 ≤ p) (hp' : p < 5) : F_X6_paintBusyHoursIn sv (some (am G i)) (I p) (setW m (sv + 6) (Rw m (sv + 6) B)) = some (.ok (), setW m (sv + 6) (Rw m (sv + 6) (fun y => B y || anyTo (dayC S p i y) 60))) := by
  have hn := hs.wr.nn
  have hC0 := h.sc (setW_sc sv m (Rw m (sv + 6) B))
  unfold F_X6_paintBusyHoursIn
  simp only [xb_xp, xb_as]
  rw [om_b (hC0.mt i hi hi'), xb_ok (c_versionThere hC0 hs.wr hs.lo hp hp' hi hi')]
  rw [show (fun y => B y || anyTo (dayC S p i y) 60) = fd (hl (datOf S p i)) (pdg S p i) B 60 from funext fun y => (pdg_any y 60).symm]
  by_cases e : isHere S p i = true
  · have hv := here_ver hs.wr hp hp' hi hi' e
    have hvv := hs.wr.vs hv.1 hv.2
    have ed : datOf S p i = ml S 23 (verOf S p i) := if_pos e
    rw [if_pos e, ed, fd_fj _ _ _ 60 60 (Nat.le_refl _)]
    have cr := cnt_r (hl (ml S 23 (verOf S p i))) 60
    refine Eq.trans (xb_ok (xl_run (fun j => I j) (fun j => setW m (sv + 6) (Rw m (sv + 6) (fj (fun j => nth (hl (ml S 23 (verOf S p i))) j 60) (pdg S p i) B j))) (cnt (hl (ml S 23 (verOf S p i))) 60).toNat 2000 (fun j hj => ?_) (fun j hj => ?_) ?_ (by omega))) rfl
    · have hC := h.sc (setW_sc sv m (Rw m (sv + 6) (fj (fun j => nth (hl (ml S 23 (verOf S p i))) j 60) (pdg S p i) B j)))
      obtain ⟨-, hvs⟩ := vO_v hC hp hp' hi hi' (show verOf S p i ≠ -1 by omega)
      obtain ⟨b, b1, b2⟩ := hvs.dr
      rw [xif_and (b := true) (fun _ => by rw [xb_ok (x_gr rfl hvs.ty b1), xb_ok (dr_len b2), xp_ap, d_lt (by omega) (by omega) (by omega) (by omega), decide_eq_true (by omega)])]; rfl
    · have es : fj (fun j => nth (hl (ml S 23 (verOf S p i))) j 60) (pdg S p i) B (j + 1) = pdg S p i (nth (hl (ml S 23 (verOf S p i))) j 60) (fj (fun j => nth (hl (ml S 23 (verOf S p i))) j 60) (pdg S p i) B j) := rfl
      rw [es]
      generalize fj (fun j => nth (hl (ml S 23 (verOf S p i))) j 60) (pdg S p i) B j = B'
      have hC := h.sc (setW_sc sv m (Rw m (sv + 6) B'))
      have hm := hC.mt i hi hi'
      obtain ⟨-, hvs⟩ := vO_v hC hp hp' hi hi' (show verOf S p i ≠ -1 by omega)
      obtain ⟨b, b1, b2⟩ := hvs.dr
      have hnth := nth_ok (c := hl (ml S 23 (verOf S p i))) (n := 60) (j := j) (by omega) (by omega)
      rw [xb_ok (x_gr rfl hvs.ty b1), xb_ok (dr_get b2 (by omega) (by omega))]
      generalize nth (hl (ml S 23 (verOf S p i))) j 60 = d at hnth ⊢
      have hbr := begOf_r hs.wr hv.1 hv.2 hnth.1 hnth.2.1
      have hrr := rank_r S p i d
      rw [om_b hm, xb_ok (c_rankBy hC hs.wr hs.rp hi hi' hp hp' hnth.1 hnth.2.1 e), gl2, d_eq (by omega) (by omega) (by omega) (by omega)]
      by_cases c : rankFor S p i d = 2
      · rw [decide_eq_true c, if_pos rfl, xb_as, ov_b hvs, xb_ok (c_beginOf hC hs.wr hvs hv.1 hv.2 hnth.1 hnth.2.1), xb_as, yv4 hvs, xb_as, os_b hC.cf, xb_ok (c_paintHours h (by omega) (by omega) (by omega) (by omega)), xb_xp, xp_ap, gl1, I_add]
        rw [show (pdg S p i d B') = (fun y => B' y || decide (48 + begOf S (verOf S p i) d ≤ y ∧ y < 48 + begOf S (verOf S p i) d + ma S 13 (verOf S p i))) from funext fun y => if_pos c]; rfl
      · rw [decide_eq_false c, if_neg (by decide), xb_xp, xp_ap, gl1, I_add]
        rw [show pdg S p i d B' = B' from funext fun y => if_neg c]; rfl
    · have hC := h.sc (setW_sc sv m (Rw m (sv + 6) (fj (fun j => nth (hl (ml S 23 (verOf S p i))) j 60) (pdg S p i) B (cnt (hl (ml S 23 (verOf S p i))) 60).toNat)))
      obtain ⟨-, hvs⟩ := vO_v hC hp hp' hi hi' (show verOf S p i ≠ -1 by omega)
      obtain ⟨b, b1, b2⟩ := hvs.dr
      rw [xif_and (b := false) (fun _ => by rw [xb_ok (x_gr rfl hvs.ty b1), xb_ok (dr_len b2), xp_ap, d_lt (by omega) (by omega) (by omega) (by omega), decide_eq_false (by omega)]), Bool.and_false]
  · have ed : datOf S p i = 0 := if_neg e
    rw [if_neg e, ed, fd_none 60 (fun d a b => hl0 a (by omega))]
    exact xb_ok (xl_run (fun j => I j) (fun _ => setW m (sv + 6) (Rw m (sv + 6) B)) 0 2000 (fun j hj => absurd hj (Nat.not_lt_zero _)) (fun j hj => absurd hj (Nat.not_lt_zero _)) rfl (by decide))
def bsT (S : MS) (people : Int) (k : Nat) : Int → Bool := fun y => anyTo (ppl S people y) k
theorem bsT_skip {people : Int} (k : Nat) : ∀ a : Nat, (∀ y z : Int, k ≤ z → z < k + a → ppl S people y z = false) → bsT S people (k + a) = bsT S people k := by
  intro a
  induction a with
  | zero => intro _; rfl
  | succ a ih =>
    intro hz
    rw [← ih (fun y z z0 z1 => hz y z z0 (by omega))]
    funext y
    show (anyTo (ppl S people y) (k + a) || ppl S people y ((k + a : Nat) : Int)) = anyTo (ppl S people y) (k + a)
    rw [hz y _ (by omega) (by omega), Bool.or_false]
theorem c_paint {people : Int} (h : CR sv G S m) (hs : SI t S) : F_X6_paintBusyHours sv (I people) m = some (.ok (), setW m (sv + 6) (Rw m (sv + 6) (bsy S people))) := by
  have hn := hs.wr.nn
  unfold F_X6_paintBusyHours
  simp only [xb_xp, xb_as]
  rw [ys8 h.cf, xb_ok (c_fill h)]
  have hrun : ∀ {c : Int32 → QX Bool} {b : Int32 → QX Int32}, (∀ j : Nat, j ≤ 5 → ∀ M, c (I j) M = some (.ok (decide (j < 5)), M)) → (∀ j : Nat, j < 5 → b (I j) (setW m (sv + 6) (Rw m (sv + 6) (bsT S people (8 * j)))) = some (.ok (I ((j + 1 : Nat) : Int)), setW m (sv + 6) (Rw m (sv + 6) (bsT S people (8 * (j + 1)))))) → xl 2000 c b (I (0 : Nat)) (setW m (sv + 6) (Rw m (sv + 6) (bsT S people (8 * 0)))) = some (.ok (I (5 : Nat)), setW m (sv + 6) (Rw m (sv + 6) (bsT S people (8 * 5)))) := fun hc hb =>
    xl_run (fun j => I j) (fun j => setW m (sv + 6) (Rw m (sv + 6) (bsT S people (8 * j)))) 5 2000 (fun j hj => by rw [hc j (by omega), decide_eq_true hj]) hb (by rw [hc 5 (by omega)]; rfl) (by decide)
  refine Eq.trans (xb_ok (hrun (fun j hj M => ?_) (fun j hj => ?_))) rfl
  · rw [xp_ap, gl5, d_lt (by omega) (by omega) (by omega) (by omega), show decide ((j : Int) < 5) = decide (j < 5) from decide_eq_decide.mpr (by omega)]
  · by_cases c : hb people j = true
    · have inner := xl_run (c := fun (s9 : Int32) => xb (F_X6_isIn (I people) (I (j : Int))) fun v => if decide (¬ v = 0) = true then xb (xgi 7 4 (some sv)) fun v => xp (decide (s9 < v)) else xp false) (b := fun (s9 : Int32) => xb (xgr 7 2 (some sv)) fun v => xb (xar 1 v s9) fun v => xb (xo 7 (some sv) fun q => F_X6_paintBusyHoursIn q v (I (j : Int))) fun _ => xp (s9 + 1)) (fun k => I k) (fun k => setW m (sv + 6) (Rw m (sv + 6) (bsT S people (8 * j + k)))) (mf S 3).toNat 2000 (fun k hk => by
          have hC := h.sc (setW_sc sv m (Rw m (sv + 6) (bsT S people (8 * j + k))))
          rw [c_isIn, xb_xp, b2ne, c, if_pos rfl, ys4 hC, xp_ap, d_lt (by omega) (by omega) (by omega) (by omega), decide_eq_true (by omega)]) (fun k hk => by
          have hC := h.sc (setW_sc sv m (Rw m (sv + 6) (bsT S people (8 * j + k))))
          rw [ys2 hC.cf, ym hC (by omega) (by omega) (by omega), os_b hC.cf, xb_ok (c_paintIn h hs (by omega) (by omega) (by omega) (by omega)), xp_ap, gl1, I_add]
          rw [show (fun y => bsT S people (8 * j + k) y || anyTo (dayC S j k y) 60) = bsT S people (8 * j + (k + 1)) from funext fun y => by
            show (anyTo (ppl S people y) (8 * j + k) || _) = (anyTo (ppl S people y) (8 * j + k) || ppl S people y ((8 * j + k : Nat) : Int))
            congr 1
            unfold ppl
            rw [show ((8 * j + k : Nat) : Int) / 8 = j by omega, show ((8 * j + k : Nat) : Int) % 8 = k by omega, c, decide_eq_true (by omega)]; rfl]; rfl) (by
          have hC := h.sc (setW_sc sv m (Rw m (sv + 6) (bsT S people (8 * j + (mf S 3).toNat))))
          rw [c_isIn, xb_xp, b2ne, c, if_pos rfl, ys4 hC, xp_ap, d_lt (by omega) (by omega) (by omega) (by omega), decide_eq_false (by omega)]) (by omega)
      refine Eq.trans (xb_ok inner) ?_
      have := bsT_skip (S := S) (people := people) (8 * j + (mf S 3).toNat) (8 - (mf S 3).toNat) (fun y z z0 z1 => by
        unfold ppl
        rw [decide_eq_false (show ¬ z % 8 < mf S 3 by omega), Bool.and_false, Bool.false_and])
      rw [show 8 * j + (mf S 3).toNat + (8 - (mf S 3).toNat) = 8 * (j + 1) by omega] at this
      rw [← this, xp_ap, gl1, I_add]; rfl
    · have inner := xl_run (c := fun (s9 : Int32) => xb (F_X6_isIn (I people) (I (j : Int))) fun v => if decide (¬ v = 0) = true then xb (xgi 7 4 (some sv)) fun v => xp (decide (s9 < v)) else xp false) (b := fun (s9 : Int32) => xb (xgr 7 2 (some sv)) fun v => xb (xar 1 v s9) fun v => xb (xo 7 (some sv) fun q => F_X6_paintBusyHoursIn q v (I (j : Int))) fun _ => xp (s9 + 1)) (fun k => I k) (fun k => setW m (sv + 6) (Rw m (sv + 6) (bsT S people (8 * j)))) 0 2000 (fun k hk => absurd hk (Nat.not_lt_zero _)) (fun k hk => absurd hk (Nat.not_lt_zero _)) (by rw [c_isIn, xb_xp, b2ne, Bool.eq_false_iff.mpr c, if_neg (by decide), xp_ap]) (by decide)
      refine Eq.trans (xb_ok inner) ?_
      have := bsT_skip (S := S) (people := people) (8 * j) 8 (fun y z z0 z1 => by
        unfold ppl
        rw [show z / 8 = j by omega, Bool.eq_false_iff.mpr c, Bool.false_and, Bool.false_and])
      rw [show 8 * (j + 1) = 8 * j + 8 by omega, this, xp_ap, gl1, I_add]; rfl
theorem q_firstFreeByHours {people f l : Int} (h : CR sv G S m) (hs : SI t S) (peoplel : -2147483648 ≤ people) (peopleh : people < 2147483648) (fl : -2147483648 ≤ f) (fh : f < 2147483648) (ll : -2147483648 ≤ l) (lh : l < 2147483648) : if gF people f l = true then ∃ r, OUT sv (F_X6_firstFreeByHours sv (I people) (I f) (I l)) m (.ok (I r)) S ∧ isFF (bsy S people) f l r else OUT sv (F_X6_firstFreeByHours sv (I people) (I f) (I l)) m (.error 2) S := by
  unfold F_X6_firstFreeByHours
  simp only [xb_xp, xb_as]
  by_cases g : gF people f l = true
  · rw [if_pos g]
    have q := g
    unfold gF at q
    simp only [Bool.and_eq_true, decide_eq_true_eq] at q
    have hc := setW_sc sv m (Rw m (sv + 6) (bsy S people))
    have hC := h.sc hc
    have inv := scan_inv (bsy S people) f
    have hi : ∀ j : Nat, (scanR (bsy S people) f j).2 ≤ 1500 := scan_hi (M := 1500) (fun x hx => bsy_hi hs.wr (by omega)) q.1.2.2
    have fin : ∃ N : Nat, f + N ≤ 1548 ∧ ¬ (scanR (bsy S people) f N).1 < l ∧ ∀ k, k < N → (scanR (bsy S people) f k).1 < l := by
      rcases first_bad (fun j => decide ((scanR (bsy S people) f j).1 < l)) (1549 - f).toNat with hall | ⟨N, n1, n2, n3⟩
      · exfalso
        have := of_decide_eq_true (hall (1548 - f).toNat (by omega))
        have h1 := (inv (1548 - f).toNat).1
        have h2 := hi (1548 - f).toNat
        omega
      · exact ⟨N, by omega, of_decide_eq_false n2, fun k hk => of_decide_eq_true (n3 k hk)⟩
    obtain ⟨N, n1, n2, n3⟩ := fin
    have hrd : ∀ j : Nat, f + j ≤ 1548 → xai 2 (some (sv + 6)) (I (f + j + 48)) (setW m (sv + 6) (Rw m (sv + 6) (bsy S people))) = some (.ok (if bsy S people (f + j + 48) = true then I 1 else I 0), setW m (sv + 6) (Rw m (sv + 6) (bsy S people))) := fun j hj =>
      x_ai hC.cf.t6 (by decide) (by omega) (by omega) (by
        show va_up (qai m) (sv + 6) (Rw m (sv + 6) (bsy S people)) (sv + 6) _ = _
        rw [va_up_same]
        unfold Rw
        rw [if_pos (by omega), show (((f + j + 48).toNat : Nat) : Int) = f + j + 48 by omega, gl1, gl0])
    refine ⟨(scanR (bsy S people) f N).2, OUT.s h hc ?_, (inv N).2.1, fun x x0 x1 => (inv N).2.2.2 x x0 (by have := (inv N).1; omega), fun w w0 w1 => scan_min q.2.1 N n3 w w0 w1⟩
    rw [xb_need (c_needSearch peoplel peopleh fl fh ll lh), if_pos g, os_b h.cf, xb_ok (c_paint h hs)]
    have hst := fun j : Nat => inv j
    rw [show ((I f, I f) : Int32 × Int32) = (I (scanR (bsy S people) f 0).2, I (f + ((0 : Nat) : Int))) from by rw [show f + ((0 : Nat) : Int) = f by omega]; rfl]
    refine Eq.trans (xb_ok (xl_run (fun j => (I (scanR (bsy S people) f j).2, I (f + j))) (fun _ => setW m (sv + 6) (Rw m (sv + 6) (bsy S people))) N 2000 (fun j hj => ?_) (fun j hj => ?_) ?_ (by omega))) rfl
    · have a1 := hst j
      have a2 := hi j
      have a3 := n3 j hj
      rw [show (1600 : Int32) = I 1600 by decide, d_le (by omega) (by omega) (by omega) (by omega), decide_eq_true (by omega), if_pos rfl, I_add, xp_ap, d_lt (by omega) (by omega) (by omega) (by omega), decide_eq_true (by omega)]
    · have a1 := hst j
      have a2 := hi j
      rw [ys8 hC.cf, show (-48 : Int32) = I (-48) by decide, I_sub, show f + (j : Int) - -48 = f + j + 48 by omega, xb_ok (hrd j (by omega)), scan_step, show f + 48 + (j : Int) = f + j + 48 by omega]
      by_cases c : bsy S people (f + j + 48) = true
      · rw [if_pos c, if_pos c, gl1, decide_eq_true rfl, if_pos rfl, xb_xp, xp_ap, I_add, show f + (j : Int) + 1 = f + ((j + 1 : Nat) : Int) by omega]
      · rw [if_neg c, if_neg c, gl1, d_eq (by omega) (by omega) (by omega) (by omega), decide_eq_false (by decide), if_neg (by decide), xb_xp, xp_ap, I_add, show f + (j : Int) + 1 = f + ((j + 1 : Nat) : Int) by omega]
    · have a1 := hst N
      have a2 := hi N
      rw [show (1600 : Int32) = I 1600 by decide, d_le (by omega) (by omega) (by omega) (by omega), decide_eq_true (by omega), if_pos rfl, I_add, xp_ap, d_lt (by omega) (by omega) (by omega) (by omega), decide_eq_false (by omega)]
  · rw [if_neg g]
    refine OUT.q h ?_
    rw [xb_need (c_needSearch peoplel peopleh fl fh ll lh), if_neg g]
end C11
