theorem xb_ifx {α β : Type} (c : Prop) [Decidable c] (x y : QX α) (f : α → QX β) : xb (if c then x else y) f = if c then xb x f else xb y f := by by_cases h : c <;> simp only [h, if_true, if_false]
theorem app_ifx {α : Type} (c : Prop) [Decidable c] (x y : QX α) (m : QM) : (if c then x else y) m = if c then x m else y m := by by_cases h : c <;> simp only [h, if_true, if_false]
theorem ifx {a b : Bool} : (if a = true then xp b else xp false : QX Bool) = xp (a && b) := by cases a <;> rfl
theorem xif_and {X : QX Bool} {a b : Bool} {m : QM} (h : a = true → X m = some (.ok b, m)) : (if a = true then X else xp false) m = some (.ok (a && b), m) := by
  cases a
  · rfl
  · exact h rfl
theorem xif_or {X : QX Bool} {a b : Bool} {m : QM} (h : a = false → X m = some (.ok b, m)) : (if a = true then xp true else X) m = some (.ok (a || b), m) := by
  cases a
  · exact h rfl
  · rfl
theorem c_needPerson {p : Int} {m : QM} (pl : -2147483648 ≤ p) (ph : p < 2147483648) : F_X6_needPerson (I p) m = if gP p = true then some (Except.ok (), m) else some (Except.error 1, m) := by
  unfold F_X6_needPerson gP
  simp (disch := omega) only [xb_xp, xb_as, xb_xz, xp_ap, xz_ok, gl0, gl1, gl2, gl3, gl4, gl5, gl6, gl7, gl8, gl10, gl12, gl16, gl23, gl24, gl28, gl31, gl32, gl40, gl48, gl59, gl60, gl61, gl63, gl97, gl100, gl127, gl150, gl160, gl305, gl1439, gl1500, gl1600, gl1649, gl1650, gl2000, gl2048, gl9600, I_neg, I_add, I_sub, I_mul, b2i_ne, b2i_eq, decide_eq_true_eq, Bool.not_eq_true', decide_eq_false_iff_not, Bool.not_not, Decidable.not_not, not_true_eq_false, not_false_eq_true, Bool.decide_eq_true, decide_not, Bool.not_eq_false, Bool.not_eq_true, Bool.false_eq_true, if_true, if_false, and_self, reduceCtorEq, hb_eq, hb_eq0, hl_eq, I_inj, I_lt, I_le, Int.reduceNeg, ma_setf, ml_setf, mf_setf, ma_seta, ml_seta, mf_seta, ma_setl, ml_setl, mf_setl, xb_ifx, app_ifx, xth_ap]
  repeat' split
  all_goals first | rfl | (exfalso; omega)
theorem c_needArgument (b : Bool) (m : QM) : F_X6_needArgument (b2i b) m = if b = true then some (Except.ok (), m) else some (Except.error 2, m) := by cases b <;> rfl
theorem c_needState (b : Bool) (m : QM) : F_X6_needState (b2i b) m = if b = true then some (Except.ok (), m) else some (Except.error 3, m) := by cases b <;> rfl
def gIn (v lo hi : Int) : Bool := decide (lo ≤ v ∧ v ≤ hi)
theorem c_needRange {v lo hi : Int} {m : QM} (vl : -2147483648 ≤ v) (vh : v < 2147483648) (lol : -2147483648 ≤ lo) (loh : lo < 2147483648) (hil : -2147483648 ≤ hi) (hih : hi < 2147483648) : F_X6_needRange (I v) (I lo) (I hi) m = if gIn v lo hi = true then some (Except.ok (), m) else some (Except.error 2, m) := by
  have e : F_X6_needRange (I v) (I lo) (I hi) = F_X6_needArgument (b2i (gIn v lo hi)) := by
    unfold F_X6_needRange gIn
    simp (disch := omega) only [xb_xp, xb_as, xb_xz, xp_ap, xz_ok, gl0, gl1, gl2, gl3, gl4, gl5, gl6, gl7, gl8, gl10, gl12, gl16, gl23, gl24, gl28, gl31, gl32, gl40, gl48, gl59, gl60, gl61, gl63, gl97, gl100, gl127, gl150, gl160, gl305, gl1439, gl1500, gl1600, gl1649, gl1650, gl2000, gl2048, gl9600, I_neg, I_add, I_sub, I_mul, b2i_ne, b2i_eq, decide_eq_true_eq, Bool.not_eq_true', decide_eq_false_iff_not, Bool.not_not, Decidable.not_not, not_true_eq_false, not_false_eq_true, Bool.decide_eq_true, decide_not, Bool.not_eq_false, Bool.not_eq_true, Bool.false_eq_true, if_true, if_false, and_self, reduceCtorEq, hb_eq, hb_eq0, hl_eq, I_inj, I_lt, I_le, Int.reduceNeg, ma_setf, ml_setf, mf_setf, ma_seta, ml_seta, mf_seta, ma_setl, ml_setl, mf_setl]
    have e1 : (if lo ≤ v then xp (decide (v ≤ hi)) else xp false : QX Bool) = xp (decide (lo ≤ v ∧ v ≤ hi)) := by
      by_cases a : lo ≤ v <;> simp [a]
    rw [e1, xb_xp]
    funext m
    cases decide (lo ≤ v ∧ v ≤ hi) <;> rfl
  rw [e, c_needArgument]
theorem c_isDay {d : Int} (dl : -2147483648 ≤ d) (dh : d < 2147483648) : F_X6_isDay (I d) = xp (b2i (gD d)) := by
  unfold F_X6_isDay gD
  simp (disch := omega) only [xb_xp, xb_as, xb_xz, xp_ap, xz_ok, gl0, gl1, gl2, gl3, gl4, gl5, gl6, gl7, gl8, gl10, gl12, gl16, gl23, gl24, gl28, gl31, gl32, gl40, gl48, gl59, gl60, gl61, gl63, gl97, gl100, gl127, gl150, gl160, gl305, gl1439, gl1500, gl1600, gl1649, gl1650, gl2000, gl2048, gl9600, I_neg, I_add, I_sub, I_mul, b2i_ne, b2i_eq, decide_eq_true_eq, Bool.not_eq_true', decide_eq_false_iff_not, Bool.not_not, Decidable.not_not, not_true_eq_false, not_false_eq_true, Bool.decide_eq_true, decide_not, Bool.not_eq_false, Bool.not_eq_true, Bool.false_eq_true, if_true, if_false, and_self, reduceCtorEq, hb_eq, hb_eq0, hl_eq, I_inj, I_lt, I_le, Int.reduceNeg, ma_setf, ml_setf, mf_setf, ma_seta, ml_seta, mf_seta, ma_setl, ml_setl, mf_setl]
  have e1 : (if 0 ≤ d then xp (decide (d < 60)) else xp false : QX Bool) = xp (decide (0 ≤ d ∧ d ≤ 59)) := by
    by_cases a : 0 ≤ d
    · rw [if_pos a]; exact congrArg xp (decide_eq_decide.mpr (by omega))
    · rw [if_neg a]; exact congrArg xp (decide_eq_false (by omega)).symm
  rw [e1, xb_xp, xz_b2i]
theorem c_needDay {d : Int} {m : QM} (dl : -2147483648 ≤ d) (dh : d < 2147483648) : F_X6_needDay (I d) m = if gD d = true then some (Except.ok (), m) else some (Except.error 2, m) := by
  unfold F_X6_needDay
  rw [xb_xp, c_isDay dl dh, xb_xp]
  cases gD d <;> rfl
theorem c_isIn (s p : Int) : F_X6_isIn (I s) (I p) = xp (b2i (hb s p)) := by
  unfold F_X6_isIn
  simp only [xb_xp]
  rw [show decide ((I s >>> (I p &&& 31)) &&& (1 : Int32) = 1) = hb s p from hb_d s p, xz_b2i]
theorem c_needDateHour {c : Int} {m : QM} (cl : -2147483648 ≤ c) (ch : c < 2147483648) : F_X6_needDateHour (I c) m = if gC c = true then some (Except.ok (), m) else some (Except.error 2, m) := by
  unfold F_X6_needDateHour
  rw [xb_xp, xb_xp, xb_xp, gl0, gl1439]
  by_cases g : gC c = true
  · rw [if_pos g, xb_ok ((c_needRange cl ch (by decide) (by decide) (by decide) (by decide)).trans (if_pos g))]; rfl
  · rw [if_neg g, xb_er ((c_needRange cl ch (by decide) (by decide) (by decide) (by decide)).trans (if_neg g))]
theorem c_needTime {d c l : Int} {m : QM} (dl : -2147483648 ≤ d) (dh : d < 2147483648) (cl : -2147483648 ≤ c) (ch : c < 2147483648) (ll : -2147483648 ≤ l) (lh : l < 2147483648) : F_X6_needTime (I d) (I c) (I l) m = if gT d c l = true then some (Except.ok (), m) else some (Except.error 2, m) := by
  unfold F_X6_needTime
  simp only [xb_xp, gl0, gl1, gl23]
  have ed := c_needDay (m := m) dl dh
  have ec := c_needRange (v := c) (lo := 0) (hi := 23) (m := m) cl ch (by decide) (by decide) (by decide) (by decide)
  have el := c_needRange (v := l) (lo := 1) (hi := 23) (m := m) ll lh (by decide) (by decide) (by decide) (by decide)
  have eT : gT d c l = (gD d && gIn c 0 23 && gIn l 1 23) := by
    unfold gT gD gIn
    rw [← Bool.decide_and, ← Bool.decide_and]
    exact decide_eq_decide.mpr (by omega)
  rw [eT]
  by_cases g1 : gD d = true
  · rw [xb_ok (ed.trans (if_pos g1))]
    by_cases g2 : gIn c 0 23 = true
    · rw [xb_ok (ec.trans (if_pos g2))]
      by_cases g3 : gIn l 1 23 = true
      · rw [xb_ok (el.trans (if_pos g3)), g1, g2, g3]; rfl
      · rw [xb_er (el.trans (if_neg g3)), g1, g2, Bool.eq_false_iff.mpr g3]; rfl
    · rw [xb_er (ec.trans (if_neg g2)), g1, Bool.eq_false_iff.mpr g2]; rfl
  · rw [xb_er (ed.trans (if_neg g1)), Bool.eq_false_iff.mpr g1]; rfl
theorem c_needSearch {p f l : Int} {m : QM} (pl : -2147483648 ≤ p) (ph : p < 2147483648) (fl : -2147483648 ≤ f) (fh : f < 2147483648) (ll : -2147483648 ≤ l) (lh : l < 2147483648) : F_X6_needSearch (I p) (I f) (I l) m = if gF p f l = true then some (Except.ok (), m) else some (Except.error 2, m) := by
  unfold F_X6_needSearch
  simp only [xb_xp, gl1, gl31, gl48, gl1500, I_neg]
  have e1 := c_needRange (v := p) (lo := 1) (hi := 31) (m := m) pl ph (by decide) (by decide) (by decide) (by decide)
  have e2 := c_needRange (v := f) (lo := -48) (hi := 1500) (m := m) fl fh (by decide) (by decide) (by decide) (by decide)
  have e3 := c_needRange (v := l) (lo := 1) (hi := 48) (m := m) ll lh (by decide) (by decide) (by decide) (by decide)
  have eT : gF p f l = (gIn p 1 31 && gIn f (-48) 1500 && gIn l 1 48) := rfl
  rw [eT]
  by_cases g1 : gIn p 1 31 = true
  · rw [xb_ok (e1.trans (if_pos g1))]
    by_cases g2 : gIn f (-48) 1500 = true
    · rw [xb_ok (e2.trans (if_pos g2))]
      by_cases g3 : gIn l 1 48 = true
      · rw [xb_ok (e3.trans (if_pos g3)), g1, g2, g3]; rfl
      · rw [xb_er (e3.trans (if_neg g3)), g1, g2, Bool.eq_false_iff.mpr g3]; rfl
    · rw [xb_er (e2.trans (if_neg g2)), g1, Bool.eq_false_iff.mpr g2]; rfl
  · rw [xb_er (e1.trans (if_neg g1)), Bool.eq_false_iff.mpr g1]; rfl
theorem c_needPlace {z n : Int} {m : QM} (zl : -2147483648 ≤ z) (zh : z < 2147483648) (nl : -2147483648 ≤ n) (nh : n < 2147483648) : F_X6_needPlace (I z) (I n) m = if decide (0 ≤ z ∧ z < n) = true then some (Except.ok (), m) else some (Except.error 1, m) := by
  unfold F_X6_needPlace
  simp (disch := omega) only [xb_xp, xb_as, xb_xz, xp_ap, xz_ok, gl0, gl1, gl2, gl3, gl4, gl5, gl6, gl7, gl8, gl10, gl12, gl16, gl23, gl24, gl28, gl31, gl32, gl40, gl48, gl59, gl60, gl61, gl63, gl97, gl100, gl127, gl150, gl160, gl305, gl1439, gl1500, gl1600, gl1649, gl1650, gl2000, gl2048, gl9600, I_neg, I_add, I_sub, I_mul, b2i_ne, b2i_eq, decide_eq_true_eq, Bool.not_eq_true', decide_eq_false_iff_not, Bool.not_not, Decidable.not_not, not_true_eq_false, not_false_eq_true, Bool.decide_eq_true, decide_not, Bool.not_eq_false, Bool.not_eq_true, Bool.false_eq_true, if_true, if_false, and_self, reduceCtorEq, hb_eq, hb_eq0, hl_eq, I_inj, I_lt, I_le, Int.reduceNeg, ma_setf, ml_setf, mf_setf, ma_seta, ml_seta, mf_seta, ma_setl, ml_setl, mf_setl, xb_ifx, app_ifx, xth_ap]
  repeat' split
  all_goals first | rfl | (exfalso; omega)
section C2
variable {sv : Nat} {G : GM} {S : MS} {m : QM} {t : Int}
theorem c_needRoom {n : Int} (h : CR sv G S m) (hw : WR t S) (h0 : 0 ≤ n) (h1 : n ≤ 10) : F_X6_needRoom sv (I n) m = if decide (mf S 29 + n ≤ 150) = true then some (Except.ok (), m) else some (Except.error 3, m) := by
  have hn := hw.nn
  unfold F_X6_needRoom
  simp (disch := omega) only [xb_xp, xb_as, xb_xz, xp_ap, xz_ok, gl0, gl1, gl2, gl3, gl4, gl5, gl6, gl7, gl8, gl10, gl12, gl16, gl23, gl24, gl28, gl31, gl32, gl40, gl48, gl59, gl60, gl61, gl63, gl97, gl100, gl127, gl150, gl160, gl305, gl1439, gl1500, gl1600, gl1649, gl1650, gl2000, gl2048, gl9600, I_neg, I_add, I_sub, I_mul, b2i_ne, b2i_eq, decide_eq_true_eq, Bool.not_eq_true', decide_eq_false_iff_not, Bool.not_not, Decidable.not_not, not_true_eq_false, not_false_eq_true, Bool.decide_eq_true, decide_not, Bool.not_eq_false, Bool.not_eq_true, Bool.false_eq_true, if_true, if_false, and_self, reduceCtorEq, hb_eq, hb_eq0, hl_eq, I_inj, I_lt, I_le, Int.reduceNeg, ma_setf, ml_setf, mf_setf, ma_seta, ml_seta, mf_seta, ma_setl, ml_setl, mf_setl, ys5 h]
  by_cases g : mf S 29 + n ≤ 150
  · rw [decide_eq_true g, if_pos g]; rfl
  · rw [decide_eq_false g, if_neg g]; rfl
theorem c_zoneNumbered {z : Int} (h : CR sv G S m) (zl : -2147483648 ≤ z) (zh : z < 2147483648) : F_X6_zoneNumbered sv (I z) m = if gZ z = true then some (.ok (some (zA sv z)), m) else some (Except.error 1, m) := by
  unfold F_X6_zoneNumbered gZ
  by_cases g : 0 ≤ z ∧ z ≤ 2
  · have e1 := x_gr (c := 7) (k := 0) (m := m) rfl h.cf.ty h.cf.f0
    have e2 := x_ar h.cf.t1 (by decide) g.1 (by omega) (h.cf.zr z g.1 (by omega))
    rw [decide_eq_true g, if_pos rfl]
    simp (disch := omega) only [xb_xp, xb_as, xb_xz, xp_ap, xz_ok, gl0, gl1, gl2, gl3, gl4, gl5, gl6, gl7, gl8, gl10, gl12, gl16, gl23, gl24, gl28, gl31, gl32, gl40, gl48, gl59, gl60, gl61, gl63, gl97, gl100, gl127, gl150, gl160, gl305, gl1439, gl1500, gl1600, gl1649, gl1650, gl2000, gl2048, gl9600, I_neg, I_add, I_sub, I_mul, b2i_ne, b2i_eq, decide_eq_true_eq, Bool.not_eq_true', decide_eq_false_iff_not, Bool.not_not, Decidable.not_not, not_true_eq_false, not_false_eq_true, Bool.decide_eq_true, decide_not, Bool.not_eq_false, Bool.not_eq_true, Bool.false_eq_true, if_true, if_false, and_self, reduceCtorEq, hb_eq, hb_eq0, hl_eq, I_inj, I_lt, I_le, Int.reduceNeg, ma_setf, ml_setf, mf_setf, ma_seta, ml_seta, mf_seta, ma_setl, ml_setl, mf_setl, xb_ifx, app_ifx, xth_ap]
    rw [if_neg (by omega), if_neg (by omega), xb_ok e1]
    exact e2
  · rw [decide_eq_false g, if_neg (by decide)]
    simp (disch := omega) only [xb_xp, xb_as, xb_xz, xp_ap, xz_ok, gl0, gl1, gl2, gl3, gl4, gl5, gl6, gl7, gl8, gl10, gl12, gl16, gl23, gl24, gl28, gl31, gl32, gl40, gl48, gl59, gl60, gl61, gl63, gl97, gl100, gl127, gl150, gl160, gl305, gl1439, gl1500, gl1600, gl1649, gl1650, gl2000, gl2048, gl9600, I_neg, I_add, I_sub, I_mul, b2i_ne, b2i_eq, decide_eq_true_eq, Bool.not_eq_true', decide_eq_false_iff_not, Bool.not_not, Decidable.not_not, not_true_eq_false, not_false_eq_true, Bool.decide_eq_true, decide_not, Bool.not_eq_false, Bool.not_eq_true, Bool.false_eq_true, if_true, if_false, and_self, reduceCtorEq, hb_eq, hb_eq0, hl_eq, I_inj, I_lt, I_le, Int.reduceNeg, ma_setf, ml_setf, mf_setf, ma_seta, ml_seta, mf_seta, ma_setl, ml_setl, mf_setl, xb_ifx, app_ifx, xth_ap]
    by_cases a : z < 0
    · rw [if_pos a]
    · rw [if_neg a, if_pos (by omega)]
theorem c_meetingNumbered {i : Int} (h : CR sv G S m) (hw : WR t S) (il : -2147483648 ≤ i) (ih : i < 2147483648) : F_X6_meetingNumbered sv (I i) m = if gM S i = true then some (.ok (some (am G i)), m) else some (Except.error 1, m) := by
  have hn := hw.nn
  unfold F_X6_meetingNumbered gM
  by_cases g : 0 ≤ i ∧ i < mf S 3
  · have e1 := x_gr (c := 7) (k := 2) (m := m) rfl h.cf.ty h.cf.f2
    have e2 := x_ar h.cf.t3 (by decide) g.1 (by omega) (h.mt i g.1 g.2).pl
    rw [decide_eq_true g, if_pos rfl]
    simp (disch := omega) only [xb_xp, xb_as, xb_xz, xp_ap, xz_ok, gl0, gl1, gl2, gl3, gl4, gl5, gl6, gl7, gl8, gl10, gl12, gl16, gl23, gl24, gl28, gl31, gl32, gl40, gl48, gl59, gl60, gl61, gl63, gl97, gl100, gl127, gl150, gl160, gl305, gl1439, gl1500, gl1600, gl1649, gl1650, gl2000, gl2048, gl9600, I_neg, I_add, I_sub, I_mul, b2i_ne, b2i_eq, decide_eq_true_eq, Bool.not_eq_true', decide_eq_false_iff_not, Bool.not_not, Decidable.not_not, not_true_eq_false, not_false_eq_true, Bool.decide_eq_true, decide_not, Bool.not_eq_false, Bool.not_eq_true, Bool.false_eq_true, if_true, if_false, and_self, reduceCtorEq, hb_eq, hb_eq0, hl_eq, I_inj, I_lt, I_le, Int.reduceNeg, ma_setf, ml_setf, mf_setf, ma_seta, ml_seta, mf_seta, ma_setl, ml_setl, mf_setl, xb_ifx, app_ifx, xth_ap, ys4 h]
    rw [if_neg (by omega), if_neg (by omega), xb_ok e1]
    exact e2
  · rw [decide_eq_false g, if_neg (by decide)]
    simp (disch := omega) only [xb_xp, xb_as, xb_xz, xp_ap, xz_ok, gl0, gl1, gl2, gl3, gl4, gl5, gl6, gl7, gl8, gl10, gl12, gl16, gl23, gl24, gl28, gl31, gl32, gl40, gl48, gl59, gl60, gl61, gl63, gl97, gl100, gl127, gl150, gl160, gl305, gl1439, gl1500, gl1600, gl1649, gl1650, gl2000, gl2048, gl9600, I_neg, I_add, I_sub, I_mul, b2i_ne, b2i_eq, decide_eq_true_eq, Bool.not_eq_true', decide_eq_false_iff_not, Bool.not_not, Decidable.not_not, not_true_eq_false, not_false_eq_true, Bool.decide_eq_true, decide_not, Bool.not_eq_false, Bool.not_eq_true, Bool.false_eq_true, if_true, if_false, and_self, reduceCtorEq, hb_eq, hb_eq0, hl_eq, I_inj, I_lt, I_le, Int.reduceNeg, ma_setf, ml_setf, mf_setf, ma_seta, ml_seta, mf_seta, ma_setl, ml_setl, mf_setl, xb_ifx, app_ifx, xth_ap, ys4 h]
    by_cases a : i < 0
    · rw [if_pos a]
    · rw [if_neg a, if_pos (by omega)]
theorem c_messageNumbered {k : Int} (h : CR sv G S m) (hw : WR t S) (kl : -2147483648 ≤ k) (kh : k < 2147483648) : F_X6_messageNumbered sv (I k) m = if gK S k = true then some (.ok (some (ag G k)), m) else some (Except.error 1, m) := by
  have hn := hw.nn
  unfold F_X6_messageNumbered gK
  by_cases g : 0 ≤ k ∧ k < mf S 29
  · have e1 := x_gr (c := 7) (k := 3) (m := m) rfl h.cf.ty h.cf.f3
    have e2 := x_ar h.cf.t4 (by decide) g.1 (by omega) (h.mg k g.1 g.2).pl
    rw [decide_eq_true g, if_pos rfl]
    simp (disch := omega) only [xb_xp, xb_as, xb_xz, xp_ap, xz_ok, gl0, gl1, gl2, gl3, gl4, gl5, gl6, gl7, gl8, gl10, gl12, gl16, gl23, gl24, gl28, gl31, gl32, gl40, gl48, gl59, gl60, gl61, gl63, gl97, gl100, gl127, gl150, gl160, gl305, gl1439, gl1500, gl1600, gl1649, gl1650, gl2000, gl2048, gl9600, I_neg, I_add, I_sub, I_mul, b2i_ne, b2i_eq, decide_eq_true_eq, Bool.not_eq_true', decide_eq_false_iff_not, Bool.not_not, Decidable.not_not, not_true_eq_false, not_false_eq_true, Bool.decide_eq_true, decide_not, Bool.not_eq_false, Bool.not_eq_true, Bool.false_eq_true, if_true, if_false, and_self, reduceCtorEq, hb_eq, hb_eq0, hl_eq, I_inj, I_lt, I_le, Int.reduceNeg, ma_setf, ml_setf, mf_setf, ma_seta, ml_seta, mf_seta, ma_setl, ml_setl, mf_setl, xb_ifx, app_ifx, xth_ap, ys5 h]
    rw [if_neg (by omega), if_neg (by omega), xb_ok e1]
    exact e2
  · rw [decide_eq_false g, if_neg (by decide)]
    simp (disch := omega) only [xb_xp, xb_as, xb_xz, xp_ap, xz_ok, gl0, gl1, gl2, gl3, gl4, gl5, gl6, gl7, gl8, gl10, gl12, gl16, gl23, gl24, gl28, gl31, gl32, gl40, gl48, gl59, gl60, gl61, gl63, gl97, gl100, gl127, gl150, gl160, gl305, gl1439, gl1500, gl1600, gl1649, gl1650, gl2000, gl2048, gl9600, I_neg, I_add, I_sub, I_mul, b2i_ne, b2i_eq, decide_eq_true_eq, Bool.not_eq_true', decide_eq_false_iff_not, Bool.not_not, Decidable.not_not, not_true_eq_false, not_false_eq_true, Bool.decide_eq_true, decide_not, Bool.not_eq_false, Bool.not_eq_true, Bool.false_eq_true, if_true, if_false, and_self, reduceCtorEq, hb_eq, hb_eq0, hl_eq, I_inj, I_lt, I_le, Int.reduceNeg, ma_setf, ml_setf, mf_setf, ma_seta, ml_seta, mf_seta, ma_setl, ml_setl, mf_setl, xb_ifx, app_ifx, xth_ap, ys5 h]
    by_cases a : k < 0
    · rw [if_pos a]
    · rw [if_neg a, if_pos (by omega)]
theorem c_clock (d : Int) : F_X5_clockChange (I d) = xp (I (d * 24 + 2)) := by
  unfold F_X5_clockChange
  simp only [xb_xp, gl24, gl2, I_mul, I_add]
theorem c_isSummer {z w : Int} (h : CR sv G S m) (hw : WR t S) (h0 : 0 ≤ z) (h1 : z < 3) (h2 : -3000 ≤ w) (h3 : w ≤ 3000) : F_X5_isSummer (zA sv z) (I w) m = some (.ok (b2i (sSum S z w)), m) := by
  have hz := hw.zn h0 h1
  unfold F_X5_isSummer sSum
  simp only [xb_xp, xb_as]
  rw [yz0 h h0 h1, yz1 h h0 h1, glm1, d_ne (by omega) (by omega) (by omega) (by omega), I_add]
  rw [xb_ok (xif_and (b := decide (ma S 1 z * 24 + 2 ≤ w + ma S 0 z)) (fun q => by
    have q : ¬ ma S 1 z = -1 := of_decide_eq_true q
    rw [yz1 h h0 h1, c_clock, xb_xp, xp_ap, d_le (by omega) (by omega) (by omega) (by omega)]))]
  rw [xb_ok (xif_and (b := decide (w + ma S 0 z < ma S 2 z * 24 + 2)) (fun q => by
    rw [Bool.and_eq_true] at q
    have q : ¬ ma S 1 z = -1 := of_decide_eq_true q.1
    rw [yz2 h h0 h1 q, c_clock, xb_xp, xp_ap, d_lt (by omega) (by omega) (by omega) (by omega)]))]
  rw [xz_ok, ← Bool.decide_and, ← Bool.decide_and]
  refine congrArg (fun b => some (Except.ok (b2i b), m)) ?_
  exact decide_eq_decide.mpr (by omega)
theorem c_toLocal {z w : Int} (h : CR sv G S m) (hw : WR t S) (h0 : 0 ≤ z) (h1 : z < 3) (h2 : -2900 ≤ w) (h3 : w ≤ 2900) : F_X5_toLocal (zA sv z) (I w) m = some (.ok (I (sLoc S z w)), m) := by
  have hz := hw.zn h0 h1
  unfold F_X5_toLocal sLoc
  simp only [xb_xp, xb_as]
  rw [yz0 h h0 h1, oz_b h.cf h0 h1, xb_ok (c_isSummer h hw h0 h1 (by omega) (by omega)), b2ne]
  cases sSum S z w
  · rw [if_neg (by decide), if_neg (by decide), xb_xp, xp_ap, gl0, I_add, I_add]
  · rw [if_pos rfl, if_pos rfl, xb_xp, xp_ap, gl1, I_add, I_add]
theorem c_toCommon {z w : Int} (h : CR sv G S m) (hw : WR t S) (h0 : 0 ≤ z) (h1 : z < 3) (h2 : -2900 ≤ w) (h3 : w ≤ 2900) : F_X5_toCommon (zA sv z) (I w) m = some (.ok (I (sCom S z w)), m) := by
  have hz := hw.zn h0 h1
  unfold F_X5_toCommon sCom
  simp only [xb_xp, xb_as]
  rw [yz0 h h0 h1, oz_b h.cf h0 h1, gl1, I_sub, I_sub, xb_ok (c_isSummer h hw h0 h1 (by omega) (by omega)), b2ne]
  cases sSum S z (w - ma S 0 z - 1)
  · rw [if_neg (by decide), if_neg (by decide), yz0 h h0 h1, xp_ap, I_sub]
  · rw [if_pos rfl, if_pos rfl, xp_ap]
variable {a : Nat} {ri : Nat → Int} {rl : Nat → Int64} {rd : Int → Int}
theorem c_isDate {d : Int} (hv : VR sv m a ri rl rd) (dl : -2147483648 ≤ d) (dh : d < 2147483648) : F_X4_isDate a (I d) m = some (.ok (b2i (gD d && hl (rl 23) d)), m) := by
  unfold F_X4_isDate
  simp only [xb_xp, xb_as]
  rw [c_isDay dl dh, xb_xp, b2ne]
  rw [xb_ok (xif_and (b := hl (rl 23) d) (fun _ => by rw [yv10 hv, xp_ap]; rfl))]
  rw [xz_ok]
theorem ia_get {b : Nat} {f : Int → Int} {d : Int} (h : IA sv m b f) (h0 : 0 ≤ d) (h1 : d < 60) : xai 0 (some b) (I d) m = some (.ok (I (f d)), m) := x_ai h.2.1 (by decide) h0 (by omega) (h.2.2 d h0 h1)
theorem c_standOf {d : Int} (hv : VR sv m a ri rl rd) (h0 : 0 ≤ d) (h1 : d < 60) : F_X4_standOf a (I d) m = some (.ok (I (rd d / 2048)), m) := by
  obtain ⟨b, hb, hi⟩ := hv.sr
  unfold F_X4_standOf
  simp only [xb_xp, xb_as]
  rw [c_isDay (by omega) (by omega), xb_xp, b2ne, show gD d = true from decide_eq_true (by omega), if_pos rfl, xb_ok (x_gr rfl hv.ty hb), ia_get hi h0 h1]; rfl
theorem c_beginOf {d v : Int} (h : CR sv G S m) (hw : WR t S) (hv : VS sv m a S v) (hv0 : 0 ≤ v) (hv1 : v < mf S 7) (h0 : 0 ≤ d) (h1 : d < 60) : F_X4_beginOf a (I d) m = some (.ok (I (begOf S v d)), m) := by
  obtain ⟨b, hb, hi⟩ := hv.mr
  have hs := hw.vs hv0 hv1
  have hd := hw.dl hv0 hv1 h0 h1
  unfold F_X4_beginOf begOf goalOf
  simp only [xb_xp, xb_as]
  rw [c_isDay (by omega) (by omega), xb_xp, b2ne, show gD d = true from decide_eq_true (by omega), if_pos rfl, xb_as, xb_ok (x_gr rfl hv.ty hb), xb_ok (ia_get hi h0 h1), yv1 hv]
  have hg : 0 ≤ ma S 24 (60 * v + d) % 2048 := by omega
  unfold mvd
  by_cases c : hl (ml S 22 v) d = true
  · rw [if_pos c, if_pos c, glm1, d_eq (by omega) (by omega) (by omega) (by omega), decide_eq_false (by omega), if_neg (by decide), xb_xp, oz h.cf (z := ma S 10 v) (by omega) (by omega)]
    exact c_toCommon h hw (by omega) (by omega) (by omega) (by omega)
  · rw [if_neg c, if_neg c, glm1, decide_eq_true rfl, if_pos rfl, xb_as, yv3 hv, xb_xp, gl24, I_mul, I_add, oz h.cf (z := ma S 10 v) (by omega) (by omega), Int.mul_comm d 24]
    exact c_toCommon h hw (by omega) (by omega) (by omega) (by omega)
def vH (G : GM) (S : MS) (p i : Int) : Nat := if ma S 4 i = p then an G i else ac G (8 * p + i)
def vO (G : GM) (S : MS) (p i : Int) : Option Nat := if ma S 4 i = p then some (an G i) else if ma S 25 (8 * p + i) = -1 then none else some (ac G (8 * p + i))
theorem c_versionOf {p i : Int} (h : CR sv G S m) (hw : WR t S) (hp : 0 ≤ p) (hp' : p < 5) (hi : 0 ≤ i) (hi' : i < mf S 3) : F_X0_versionOf (am G i) (I p) m = some (.ok (vO G S p i), m) := by
  have hm := h.mt i hi hi'
  have hx := hw.mt hi hi'
  unfold F_X0_versionOf vO
  simp only [xb_xp, xb_as]
  rw [gl0, gl5, d_lt (by omega) (by omega) (by omega) (by omega), d_le (by omega) (by omega) (by omega) (by omega), decide_eq_false (by omega), if_neg (by decide), xb_xp, decide_eq_false (by omega), if_neg (by decide), ym1 hm, d_eq (by omega) (by omega) (by omega) (by omega)]
  by_cases c : ma S 4 i = p
  · rw [decide_eq_true c.symm, if_pos rfl, if_pos c, x_gr rfl hm.ty hm.f2]
  · rw [decide_eq_false (fun q => c q.symm), if_neg (by decide), if_neg c, ym3 hm]
    by_cases e : ma S 25 (8 * p + i) = -1
    · rw [if_pos e, x_ar hm.t5 (by decide) hp (by omega) (hm.cn p hp hp' e)]
    · rw [if_neg e, x_ar hm.t5 (by decide) hp (by omega) (hm.cs p hp hp' e).1]
theorem vO_v {p i : Int} (h : CR sv G S m) (hp : 0 ≤ p) (hp' : p < 5) (hi : 0 ≤ i) (hi' : i < mf S 3) (hc : verOf S p i ≠ -1) : vO G S p i = some (vH G S p i) ∧ VS sv m (vH G S p i) S (verOf S p i) := by
  have hm := h.mt i hi hi'
  unfold verOf at hc ⊢
  unfold vO vH
  by_cases c : ma S 4 i = p
  · simp only [if_pos c]; exact ⟨trivial, hm.now⟩
  · simp only [if_neg c] at hc ⊢
    rw [if_neg hc]; exact ⟨rfl, (hm.cs p hp hp' hc).2⟩
def LO (S : MS) : Prop := ∀ i, 0 ≤ i → i < mf S 3 → hb (ma S 18 (ma S 5 i)) (ma S 4 i) = false
theorem c_versionThere {p i : Int} (h : CR sv G S m) (hw : WR t S) (ho : LO S) (hp : 0 ≤ p) (hp' : p < 5) (hi : 0 ≤ i) (hi' : i < mf S 3) : F_X0_versionThere (am G i) (I p) m = some (.ok (if isHere S p i = true then some (vH G S p i) else none), m) := by
  have hm := h.mt i hi hi'
  have hx := hw.mt hi hi'
  unfold F_X0_versionThere
  simp only [xb_xp, xb_as]
  rw [om_b hm, xb_ok (c_versionOf h hw hp hp' hi hi')]
  by_cases e : verOf S p i = -1
  · have e2 : vO G S p i = none ∧ isHere S p i = false := by
      unfold verOf at e
      unfold vO isHere
      by_cases c : ma S 4 i = p
      · rw [if_pos c] at e; omega
      · rw [if_neg c] at e
        rw [if_neg c, if_neg c, if_pos e]
        exact ⟨rfl, decide_eq_false (fun q => q.1 e)⟩
    rw [e2.1, e2.2]; rfl
  · obtain ⟨e1, hv⟩ := vO_v h hp hp' hi hi' e
    have hr := verOf_r hw hp hp' hi hi'
    have hs := hw.vs (v := verOf S p i) (by omega) hr.2
    rw [e1, decide_eq_false (by simp), if_neg (by decide), xb_as, yv16 hv, xb_xp, gl0, d_ne (by omega) (by omega) (by omega) (by omega)]
    have eh : isHere S p i = (!(decide (¬ ma S 19 (verOf S p i) = 0)) && !hb (ma S 18 (verOf S p i)) p) := by
      unfold verOf at e ⊢
      unfold isHere
      by_cases c : ma S 4 i = p
      · have hl := ho i hi hi'
        rw [c] at hl
        simp only [if_pos c, hl]; simp
      · simp only [if_neg c] at e ⊢
        simp [e]
    rw [xb_ok (xif_or (b := hb (ma S 18 (verOf S p i)) p) (fun _ => by rw [yv15 hv, c_isIn, xb_xp, nb0, xp_ap]))]
    rw [eh]
    cases decide (¬ ma S 19 (verOf S p i) = 0) <;> cases hb (ma S 18 (verOf S p i)) p <;> rfl
theorem c_copyThere {p i : Int} (h : CR sv G S m) (hw : WR t S) (ho : LO S) (hp : 0 ≤ p) (hp' : p < 5) (hi : 0 ≤ i) (hi' : i < mf S 3) : F_X6_copyThere (I p) (some (am G i)) m = if gHC S p i = true then some (.ok (some (ac G (8 * p + i))), m) else some (Except.error 3, m) := by
  have hm := h.mt i hi hi'
  have hx := hw.mt hi hi'
  unfold F_X6_copyThere gHC
  simp only [xb_xp, xb_as]
  rw [ym1 hm, d_eq (by omega) (by omega) (by omega) (by omega)]
  by_cases c : ma S 4 i = p
  · rw [decide_eq_true c.symm, if_pos rfl, xb_xp, show decide (ma S 4 i ≠ p ∧ isHere S p i = true) = false from decide_eq_false (fun q => q.1 c)]; rfl
  · rw [decide_eq_false (fun q => c q.symm), if_neg (by decide), om_b hm, xb_ok (c_versionThere h hw ho hp hp' hi hi')]
    by_cases e : isHere S p i = true
    · rw [if_pos e, decide_eq_true (show ma S 4 i ≠ p ∧ isHere S p i = true from ⟨c, e⟩), if_pos rfl]
      unfold vH
      rw [if_neg c]; rfl
    · rw [if_neg e, show decide (ma S 4 i ≠ p ∧ isHere S p i = true) = false from decide_eq_false (fun q => e q.2)]; rfl
theorem c_versionWithDate {p i d : Int} (h : CR sv G S m) (hw : WR t S) (ho : LO S) (hp : 0 ≤ p) (hp' : p < 5) (hi : 0 ≤ i) (hi' : i < mf S 3) (h0 : 0 ≤ d) (h1 : d < 60) : F_X6_versionWithDate (I p) (some (am G i)) (I d) m = if hl (datOf S p i) d = true then some (.ok (some (vH G S p i)), m) else some (Except.error 3, m) := by
  have hm := h.mt i hi hi'
  unfold F_X6_versionWithDate
  simp only [xb_xp, xb_as]
  rw [om_b hm, xb_ok (c_versionThere h hw ho hp hp' hi hi')]
  by_cases e : isHere S p i = true
  · have hv := here_ver hw hp hp' hi hi' e
    obtain ⟨e1, hvs⟩ := vO_v h hp hp' hi hi' (by omega)
    unfold datOf
    rw [if_pos e, if_pos e, decide_eq_false (by simp), if_neg (by decide), xb_as, ov_b hvs, xb_ok (c_isDate hvs (by omega) (by omega)), xb_xp, b2ne, show gD d = true from decide_eq_true (by omega), Bool.true_and]
    cases hl (ml S 23 (verOf S p i)) d <;> rfl
  · have e0 : ¬ hl (datOf S p i) d = true := fun q => e (dat_here h0 h1 q)
    rw [if_neg e, if_neg e0]; rfl
end C2
