section C30
variable {sv : Nat} {G G' : GM} {S S1 : MS} {m m' M W : QM} {t : Int} {p i d w ot f n s st : Int} {T a b : Nat} {kd sn rc dy lc an o2 : Int32} {mt : Option Nat}
theorem c_slotOf (pl : -2147483648 ≤ p) (ph : p < 2147483648) (dl : -2147483648 ≤ d) (dh : d < 2147483648) (x0 : -2147483648 ≤ p * 61 + d) (x1 : p * 61 + d < 2147483640) : F_X3_slotOf (I p) (I d) = xp (I (61 * p + d + 1)) := by
  unfold F_X3_slotOf
  simp only [xb_xp]
  rw [show (61 : Int32) = I 61 by decide, glm1, I_mul, I_add, I_sub, show p * 61 + d - -1 = 61 * p + d + 1 by omega]
theorem c_newerT (h1 : qty M T = (1, 2, 0)) (h4 : qfr M 132 T = some a) (h9 : qfi M 137 T = I st) (ha : qty M a = (1, 5, 0)) (hs9 : qfi M 320 a = I s) (h : ∀ k, 0 ≤ k → k < mf S 29 → MG sv G S M k) (hw : WR t S) (hf : RN S f) (s0 : 0 ≤ s) (s1 : s ≤ 600) (t0 : 0 ≤ st) (t1 : st ≤ 600) : F_X1_isNewerThan T (oad G f) M = some (.ok (b2i (decide (f = -1) || decide (ma S 36 f < s) || (decide (s = ma S 36 f) && decide (ma S 39 f < st)))), M) := by
  rcases hf with e | ⟨f0, f1, fr⟩
  · subst e; rfl
  · have hG := h f f0 f1
    have hy := hw.ms f0 f1
    have hn := hw.nn
    have eo : oad G f = some (ag G f) := if_neg (by omega)
    have y4 : ∀ {β : Type} (k : Option Nat → QX β), xb (xgr 2 4 (some T)) k M = k (some a) M := fun k => xb_ok (x_gr rfl h1 h4)
    have y0 : ∀ {β : Type} (k : Int32 → QX β), xb (xgi 5 0 (some a)) k M = k (I s) M := fun k => xb_ok (x_gi rfl ha hs9)
    have y9 : ∀ {β : Type} (k : Int32 → QX β), xb (xgi 2 9 (some T)) k M = k (I st) M := fun k => xb_ok (x_gi rfl h1 h9)
    rw [eo]
    unfold F_X1_isNewerThan
    simp only [xb_xp, xb_as]
    rw [xb_ok (xif_or (b := decide (¬ s = ma S 36 f)) (fun _ => by rw [y4, y0, yg4 hG, ygv hG, xp_ap, d_ne (by omega) (by omega) (by omega) (by omega)]))]
    rw [show decide (some (ag G f) = none) = false from rfl, Bool.false_or]
    by_cases e : s = ma S 36 f
    · rw [decide_eq_false (fun q => q e), if_neg (by decide), y9, yg9 hG fr, xz_ok, d_lt (by omega) (by omega) (by omega) (by omega)]
      rw [decide_eq_false (show ¬ f = -1 by omega), decide_eq_false (show ¬ ma S 36 f < s by omega), decide_eq_true e]; rfl
    · rw [decide_eq_true e, if_pos rfl]
      rw [xb_ok (xif_or (b := decide (ma S 36 f < s)) (fun _ => by rw [y4, y0, yg4 hG, ygv hG, xp_ap, d_lt (by omega) (by omega) (by omega) (by omega)]))]
      rw [xz_ok, decide_eq_false (show ¬ f = -1 by omega), decide_eq_false e]
      cases decide (ma S 36 f < s) <;> rfl
theorem c_keepT {g : Bool} {F : Option Nat} (tb : qty m b = (1, 4, 0)) (fb : qfr m 256 b = some (b + 1)) (ta : qty m (b + 1) = (4, 2, 305)) (tT : qty m T = (1, 2, 0)) (e2 : qfi m 130 T = I p) (e5 : qfi m 133 T = I d) (p0 : 0 ≤ p) (p1 : p < 5) (d0 : -1 ≤ d) (d1 : d < 60) (er : qar m (b + 1) (61 * p + d + 1).toNat = F) (hn : F_X1_isNewerThan T F m = some (.ok (b2i g), m)) : F_X3_keep b (some T) m = some (.ok (b2i g), if g = true then sar m (b + 1) (61 * p + d + 1).toNat (some T) else m) := by
  unfold F_X3_keep
  simp only [xb_xp, xb_as]
  rw [xb_ok (x_gi rfl tT e2), xb_ok (x_gi rfl tT e5), c_slotOf (by omega) (by omega) (by omega) (by omega) (by omega) (by omega), xb_xp, gl0, d_lt (by omega) (by omega) (by omega) (by omega), decide_eq_false (show ¬ 61 * p + d + 1 < 0 by omega), if_neg (by decide)]
  simp only [xb_as]
  have e1 : xlen (some (b + 1)) m = some (.ok (I (305 : Nat)), m) := x_lenr ta (by decide)
  rw [xb_ok (x_gr rfl tb fb), xb_ok e1, xb_xp, d_le (by omega) (by omega) (by omega) (by omega), decide_eq_false (by omega), if_neg (by decide)]
  simp only [xb_as]
  rw [xb_ok (x_gr rfl tb fb), xb_ok (x_ar ta (by decide) (by omega) (by omega) er), xb_xo tT, xb_ok hn, xb_xp, ← gl0, b2ne]
  cases g
  · rw [show (!false) = true from rfl, if_pos rfl, if_neg (by decide)]; rfl
  · rw [show (!true) = false from rfl, if_neg (by decide), if_pos rfl]
    rw [xb_ok (x_gr rfl tb fb), xb_ok (x_sar ta (by decide) (by omega) (by omega) tT)]; rfl
end C30
