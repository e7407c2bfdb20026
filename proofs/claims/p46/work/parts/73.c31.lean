def setR (m : QM) (R : Nat → Nat → Option Nat) : QM := (m.1, m.2.1, m.2.2.1, m.2.2.2.1, m.2.2.2.2.1, m.2.2.2.2.2.1, R, m.2.2.2.2.2.2.2)
section C31
variable {sv : Nat} {G G' : GM} {S S1 : MS} {m m' M W : QM} {t : Int} {p i d w ot f n s st v : Int} {T a b : Nat} {kd sn rc dy lc an o2 st2 : Int32} {mt ve : Option Nat}
theorem MSO.far {f b : Nat} {x : Int32} (h : MSO m T kd mt sn rc ve dy lc an o2 st2) (hf : 140 ≤ f) : MSO (sfi m f b x) T kd mt sn rc ve dy lc an o2 st2 := ⟨h.ty, (fi_n (by omega)).trans h.f0, h.f1, (fi_n (by omega)).trans h.f2, (fi_n (by omega)).trans h.f3, h.f4, (fi_n (by omega)).trans h.f5, (fi_n (by omega)).trans h.f6, (fi_n (by omega)).trans h.f7, (fi_n (by omega)).trans h.f8, (fi_n (by omega)).trans h.f9, (fi_n (by omega)).trans h.f10, (fi_n (by omega)).trans h.f11⟩
theorem KP.wfi {f b : Nat} {x : Int32} (h : KP sv m M) (hb : b < sv + 20 ∨ sv + 23 ≤ b) : KP sv m (sfi M f b x) := h.trans ⟨Nat.le_refl _, fun c u z => ⟨rfl, fun g => fi_a (by omega), fun _ => rfl, rfl, rfl⟩⟩
theorem KP.wR {R : Nat → Nat → Option Nat} (h : KP sv m M) : KP sv m (setR M R) := h.trans ⟨Nat.le_refl _, fun c u z => ⟨rfl, fun _ => rfl, fun _ => rfl, rfl, rfl⟩⟩
theorem IMM.wR {R : Nat → Nat → Option Nat} (h : IMM sv m M) : IMM sv m (setR M R) := h.trans ⟨Nat.le_refl _, fun _ _ _ => rfl, fun _ _ _ _ _ => rfl, fun _ _ _ _ _ => rfl, fun _ _ _ _ _ => rfl, fun _ _ _ => rfl⟩
theorem sar_R {g : Bool} {j : Nat} {x : Option Nat} : (if g = true then sar m b j x else m) = setR m (if g = true then va_up (qar m) b (va_up (qar m b) j x) else qar m) := by cases g <;> rfl
theorem CF.unT {j : Nat} {x : Int32} {y : Option Nat} (cf : CF sv (fiT sv j y x m)) : CF sv m := by
  have q : ∀ b, b ≠ sv + 4 → qar (fiT sv j y x m) b = qar m b := fun b h => va_up_diff _ _ h
  exact ⟨cf.ty, cf.f0, cf.f1, cf.f2, cf.f3, cf.f7, cf.f8, cf.t1, cf.t2, cf.t3, cf.t4, cf.t5, cf.t6, fun z x y => by
    have := cf.zr z x y
    rw [q _ (by omega)] at this; exact this, cf.zt, fun z x y => by
    have := cf.pr z x y
    rw [q _ (by omega)] at this; exact this, cf.pt, cf.pf, cf.pe, cf.top⟩
theorem EA.lo (e : EA S1 S) (h : LO S) : LO S1 := fun j x y => by
  rw [e.2.2.2.1 3 (by decide) (by decide)] at y
  rw [e.1 18 (by decide) (by decide), e.1 5 (by decide) (by decide), e.1 4 (by decide) (by decide)]
  exact h j x y
theorem c_putReply (h : CR sv G S m) (hs : SI t S) (ht : t + 1 ≤ 600) (hn : mf S 29 < 150) (gM : GROW m M) (qT : qtop M = qtop m + 1) (hM : MSO M (qtop m) (I 1) (some (am G i)) (I p) (I (ma S 4 i)) (some a) (I d) lc (I w) o2 0) (hv : VS sv m a S v) (v0 : 0 ≤ v) (v1 : v < mf S 7)
    (p0 : 0 ≤ p) (p1 : p < 5) (i0 : 0 ≤ i) (i1 : i < mf S 3) (d0 : -1 ≤ d) (d1 : d < 60) (hW : WR t S1) (e : EA S1 S)
    (v31 : ma S1 31 (mf S 29) = 1) (v32 : ma S1 32 (mf S 29) = p) (v33 : ma S1 33 (mf S 29) = ma S 4 i) (v34 : ma S1 34 (mf S 29) = i) (v36 : ma S1 36 (mf S 29) = ma S 9 v) (v37 : ma S1 37 (mf S 29) = d) (v38 : ma S1 38 (mf S 29) = w) (v39 : ma S1 39 (mf S 29) = mf S 30) (v42 : ma S1 42 (mf S 29) = 0) (ho : o2 = I (if w = 4 then ma S1 40 (mf S 29) else -1)) (f30 : mf S1 30 = mf S 30 + 1) :
    ∃ m', F_X6_putReply sv (some (qtop m)) M = some (.ok (I (mf S 29)), m') ∧ CR sv (gap G (mf S 29) (qtop m) a) (sMarks S1 p i) m' ∧ KP sv m m' := by
  have h0 := hs.wr.nn
  have tp := h.cf.top
  have hx := hs.wr.vs v0 v1
  have lt : ∀ k, 0 ≤ k → k < mf S 29 → ag G k < qtop m := fun k x y => (h.mg k x y).hi
  have hmi := h.mt i i0 i1
  have f3 : mf S1 3 = mf S 3 := e.2.2.2.1 3 (by decide) (by decide)
  -- the stamp
  have hM1 := hM.w9 (x := I (mf S 30))
  have gM1 : GROW m (sfi M 137 (qtop m) (I (mf S 30))) := gM.sfi (Nat.le_refl _)
  have qT1 : qtop (sfi M 137 (qtop m) (I (mf S 30))) = qtop m + 1 := qT
  have hC := h.grow gM
  generalize hM1e : sfi M 137 (qtop m) (I (mf S 30)) = M1 at hM1 gM1 qT1
  have hC1 := h.grow gM1
  have hMT := hC1.mt i i0 i1
  -- the count of replies
  have hM2 := hM1.far (f := 454) (b := sv) (x := I (mf S 30 + 1)) (by decide)
  have hr : RN S (ownb S i p d) := by
    rcases bestTo_r S (cO S i p d) (mf S 29).toNat with z | ⟨z1, z2, z3⟩
    · exact Or.inl z
    · refine Or.inr ⟨z1, by unfold ownb; omega, ?_⟩
      unfold cO at z3
      simp only [Bool.and_eq_true, decide_eq_true_eq] at z3
      exact z3.1.1.1
  have hlt := ownb_lt (S := S) (by omega) i p d
  have eg : later S1 (mf S 29) (ownb S i p d) = (decide (ownb S i p d = -1) || decide (ma S 36 (ownb S i p d) < ma S 9 v) || (decide (ma S 9 v = ma S 36 (ownb S i p d)) && decide (ma S 39 (ownb S i p d) < mf S 30))) := by
    unfold later
    rw [v36, v39, e.2.1 36 _ (by decide) (by omega), e.2.1 39 _ (by decide) (by omega)]
  have im2 : IMM sv M1 (sfi M1 454 sv (I (mf S 30 + 1))) := (IMM.refl sv M1).wfi (Or.inr (by decide))
  have hn1 := c_newerT (f := ownb S i p d) (s := ma S 9 v) (st := mf S 30) hM2.ty hM2.f4 hM2.f9 ((gM1.imm (sv := sv)).ty a hv.lo hv.hi |>.trans hv.ty) ((hv.fr ((gM1.imm (sv := sv)).trans im2)).f0) (fun k x y => (hC1.mg k x y).fr im2 rfl (fun f q => ⟨fi_n (by omega), rfl⟩) rfl rfl rfl rfl (fun _ _ _ => rfl) (fun _ => SV.refl _ _)) hs.wr hr (by omega) (by omega) (by omega) (by omega)
  rw [← eg] at hn1
  -- the book of the person's own
  have hk := c_keepT (b := am G i + 8) (T := qtop m) (p := p) (d := d) (m := sfi M1 454 sv (I (mf S 30 + 1))) hMT.t8 hMT.r8 hMT.t9 hM2.ty hM2.f2 hM2.f5 p0 p1 d0 d1 (hMT.ow p d p0 p1 d0 d1) hn1
  rw [sar_R] at hk
  have hMTlo := hMT.lo
  have hMThi := hMT.hi
  generalize hRe : (if later S1 (mf S 29) (ownb S i p d) = true then va_up (qar (sfi M1 454 sv (I (mf S 30 + 1)))) (am G i + 8 + 1) (va_up (qar (sfi M1 454 sv (I (mf S 30 + 1))) (am G i + 8 + 1)) (61 * p + d + 1).toNat (some (qtop m))) else qar (sfi M1 454 sv (I (mf S 30 + 1)))) = R at hk
  have r1 : ∀ b, b ≠ am G i + 9 → R b = qar M1 b := fun b q => by
    rw [← hRe]
    split
    · exact va_up_diff _ _ q
    · rfl
  have r2 : ∀ j, R (am G i + 9) j = if later S1 (mf S 29) (ownb S i p d) = true ∧ j = (61 * p + d + 1).toNat then some (qtop m) else qar M1 (am G i + 9) j := fun j => by
    rw [← hRe]
    by_cases g : later S1 (mf S 29) (ownb S i p d) = true
    · rw [if_pos g]
      show va_up (qar M1) (am G i + 9) (va_up (qar M1 (am G i + 9)) (61 * p + d + 1).toNat (some (qtop m))) (am G i + 9) j = _
      rw [va_up_same]
      by_cases q : j = (61 * p + d + 1).toNat
      · subst q; rw [va_up_same, if_pos ⟨g, rfl⟩]
      · rw [va_up_diff _ _ q, if_neg (fun z => q z.2)]
    · rw [if_neg g, if_neg (fun z => g z.1)]; rfl
  have hM3 : MSO (setR (sfi M1 454 sv (I (mf S 30 + 1))) R) (qtop m) (I 1) (some (am G i)) (I p) (I (ma S 4 i)) (some a) (I d) lc (I w) o2 (I (mf S 30)) := hM2
  have i3 : IMM sv m (setR (sfi M1 454 sv (I (mf S 30 + 1))) R) := ((gM1.imm (sv := sv)).trans im2).wR
  have k3 : KP sv m (setR (sfi M1 454 sv (I (mf S 30 + 1))) R) := ((gM1.kp tp).wfi (Or.inl (by omega))).wR
  have q3 : qtop (setR (sfi M1 454 sv (I (mf S 30 + 1))) R) = qtop m + 1 := qT1
  have iW : IMM sv m (fiT sv (mf S 29).toNat (some (qtop m)) (I (mf S 29 + 1)) (setR (sfi M1 454 sv (I (mf S 30 + 1))) R)) := fiT_im i3
  have hv2 := hv.fr iW
  have mg : MG sv (gap G (mf S 29) (qtop m) a) S1 (fiT sv (mf S 29).toNat (some (qtop m)) (I (mf S 29 + 1)) (setR (sfi M1 454 sv (I (mf S 30 + 1))) R)) (mf S 29) := by
    have e1 : ag (gap G (mf S 29) (qtop m) a) (mf S 29) = qtop m := if_pos rfl
    have e2 : Jvm.Pilot.CMeetingServerLaw_law_r1901_9528e9.av (gap G (mf S 29) (qtop m) a) (mf S 29) = a := if_pos rfl
    unfold MG
    rw [e1, e2, v31, v32, v33, v34, v36, v37, v38, v39, v42]
    refine ⟨tp, (by show qtop m < qtop M1; omega), hM3.ty, ?_, (fi_n (by decide)).trans hM3.f0, hM3.f1, (fi_n (by decide)).trans hM3.f2, (fi_n (by decide)).trans hM3.f3, hM3.f4, hv2.lo, hv2.hi, hv2.ty, hv2.f0, fun z => absurd z (by decide), (fi_n (by decide)).trans hM3.f5, fun z => absurd z (by decide), fun _ => (fi_n (by decide)).trans hM3.f7, fun _ => ((fi_n (by decide)).trans hM3.f8).trans ho, fun _ => (fi_n (by decide)).trans hM3.f9, fun _ => (fi_n (by decide)).trans hM3.f10, fun z => absurd z (by decide)⟩
    rw [fiT_row, if_pos rfl]
  have ra : ∀ b, b ≠ sv + 4 → qar (fiT sv (mf S 29).toNat (some (qtop m)) (I (mf S 29 + 1)) (setR (sfi M1 454 sv (I (mf S 30 + 1))) R)) b = R b := fun b q => va_up_diff _ _ q
  have hCW : CR sv (gap G (mf S 29) (qtop m) a) S1 (fiT sv (mf S 29).toNat (some (qtop m)) (I (mf S 29 + 1)) (setR (sfi M1 454 sv (I (mf S 30 + 1))) R)) := by
    refine hC1.app (by omega) e v42 lt ?_ fi_s rfl rfl rfl rfl rfl (fun f b x y => (fi_n x).trans (fi_n (m := M1) y)) (fun j => ?_) (fun b x y => (ra b x).trans (r1 b (y i i0 i1))) (fun j q e2 j0 j1 q0 q1 u0 u1 => ?_) mg
    · rw [f30]
      exact (fi_n (by decide)).trans (show qfi (sfi M1 454 sv (I (mf S 30 + 1))) 454 sv = I (mf S 30 + 1) from fi_s)
    · rw [fiT_row]
      by_cases z : j = (mf S 29).toNat
      · rw [if_pos z, if_pos z]
      · rw [if_neg z, if_neg z]
        exact congrFun (r1 (sv + 4) (by omega)) j
    · have hMj := hC1.mt j j0 j1
      have hjl := hMj.lo
      rw [ra _ (by omega), ownb_app e (by omega)]
      by_cases z : j = i
      · subst z
        rw [r2]
        by_cases y : q = p ∧ e2 = d
        · obtain ⟨y1, y2⟩ := y
          subst y1 y2
          have c0 : cO S1 j q e2 (mf S 29) = true := by
            unfold cO
            rw [v31, v34, v32, v37, decide_eq_true rfl, decide_eq_true rfl, decide_eq_true rfl, decide_eq_true rfl]; rfl
          rw [c0, Bool.true_and]
          by_cases g : later S1 (mf S 29) (ownb S j q e2) = true
          · rw [if_pos ⟨g, rfl⟩, if_pos g]
            unfold oad
            rw [if_neg (by omega)]
            show some (qtop m) = some (if mf S 29 = mf S 29 then qtop m else ag G (mf S 29))
            rw [if_pos rfl]
          · rw [if_neg (fun x => g x.1), if_neg g, oad_gap (ownb_lt (by omega) _ _ _)]
            exact hMj.ow q e2 q0 q1 u0 u1
        · have c0 : cO S1 j q e2 (mf S 29) = false := by
            unfold cO
            rw [v32, v37]
            by_cases x : q = p
            · rw [decide_eq_false (show ¬ d = e2 from fun x2 => y ⟨x, x2.symm⟩), Bool.and_false]
            · rw [decide_eq_false (show ¬ p = q from fun x2 => x x2.symm), Bool.and_false, Bool.false_and]
          rw [c0, Bool.false_and, if_neg (c := false = true) (by decide), if_neg (fun x => y (by omega)), oad_gap (ownb_lt (by omega) _ _ _)]
          exact hMj.ow q e2 q0 q1 u0 u1
      · have c0 : cO S1 j q e2 (mf S 29) = false := by
          unfold cO
          rw [v34, decide_eq_false (show ¬ i = j from fun x2 => z x2.symm), Bool.and_false]; rfl
        have sp : am G j + 9 ≠ am G i + 9 := by
          rcases Int.lt_or_lt_of_ne z with x | x
          · have := hC1.mi j i j0 x i1; omega
          · have := hC1.mi i j i0 x j1; omega
        rw [r1 _ sp, c0, Bool.false_and, if_neg (c := false = true) (by decide), oad_gap (ownb_lt (by omega) _ _ _)]
        exact hMj.ow q e2 q0 q1 u0 u1
  obtain ⟨W', w1, w2, w3⟩ := c_markEntry (p := p) (i := i) hCW hW ht (e.lo hs.lo) p0 p1 i0 (by rw [f3]; exact i1)
  have w1 : F_X6_markEntry sv (I p) (some (am G i)) (fiT sv (mf S 29).toNat (some (qtop m)) (I (mf S 29 + 1)) (setR (sfi M1 454 sv (I (mf S 30 + 1))) R)) = some (.ok (), W') := w1
  have z3 : qfi (sfi M1 454 sv (I (mf S 30 + 1))) 453 sv = I (mf S 29) := (fi_n (by decide)).trans hC1.f5
  obtain ⟨M4, x1, x2, x3⟩ := c_markBefore (m := setR (sfi M1 454 sv (I (mf S 30 + 1))) R) hC1.cf.t4 z3 w1
  subst x2
  have cf4 := w2.cf.unT
  have hP := c_putMessage (n := mf S 29) cf4 x3 (by omega) hn (show qty M4 (qtop m) = (1, 2, 0) from (congrFun w3.2.1 _).trans hM3.ty)
  refine ⟨_, ?_, w2, (fiT_kp k3).trans w3.kp⟩
  have u1 : qfi M 454 sv = I (mf S 30) := hC.f6
  have u2 : qfi M1 454 sv = I (mf S 30) := hC1.f6
  unfold F_X6_putReply
  simp only [xb_xp, xb_as]
  rw [xb_ok (x_gi rfl hC.cf.ty u1), xb_ok (x_si (f := 137) rfl hM.ty), hM1e, xb_ok (x_gi rfl hC1.cf.ty u2), gl1, I_add, xb_ok (x_si (f := 454) rfl hC1.cf.ty)]
  rw [xb_ok (x_gr rfl hM2.ty hM2.f1), xb_ok (x_gr rfl (show qty (sfi M1 454 sv (I (mf S 30 + 1))) (am G i) = (1, 1, 0) from hMT.ty) (show qfr (sfi M1 454 sv (I (mf S 30 + 1))) 70 (am G i) = some (am G i + 8) from hMT.f6)), xb_xo (show qty (sfi M1 454 sv (I (mf S 30 + 1))) (am G i + 8) = (1, 4, 0) from hMT.t8), xb_ok hk, xb_ok (x_gi rfl hM3.ty hM3.f2), xb_ok (x_gr rfl hM3.ty hM3.f1), xb_xo (show qty (setR (sfi M1 454 sv (I (mf S 30 + 1))) R) sv = (1, 7, 0) from hC1.cf.ty), xb_ok x1, os cf4]
  exact hP
end C31
