def MO (m : QM) (T B : Nat) (n o : Int32) (a' : Nat) : Prop :=
  (B + 5 ≤ qtop m) ∧ (qty m T = (1, 1, 0)) ∧ (qfi m 64 T = n) ∧ (qfi m 65 T = o) ∧ (qfr m 66 T = some a') ∧ (qfr m 67 T = some B) ∧ (qfi m 68 T = 0) ∧ (qfr m 69 T = some (B + 1)) ∧ (qfr m 70 T = some (B + 3)) ∧ (qty m B = (4, 5, 5)) ∧ (qty m (B + 1) = (1, 4, 0)) ∧ (qty m (B + 2) = (4, 2, 305)) ∧ (qty m (B + 3) = (1, 4, 0)) ∧ (qty m (B + 4) = (4, 2, 305)) ∧ (qfr m 256 (B + 1) = some (B + 2)) ∧ (qfr m 256 (B + 3) = some (B + 4)) ∧ (∀ j, qar m B j = none) ∧ (∀ j, qar m (B + 2) j = none) ∧ (∀ j, qar m (B + 4) j = none)
theorem MO.top {m : QM} {T B : Nat} {n o : Int32} {a' : Nat} (h : MO m T B n o a') : B + 5 ≤ qtop m := h.1
theorem MO.ty {m : QM} {T B : Nat} {n o : Int32} {a' : Nat} (h : MO m T B n o a') : qty m T = (1, 1, 0) := h.2.1
theorem MO.f0 {m : QM} {T B : Nat} {n o : Int32} {a' : Nat} (h : MO m T B n o a') : qfi m 64 T = n := h.2.2.1
theorem MO.f1 {m : QM} {T B : Nat} {n o : Int32} {a' : Nat} (h : MO m T B n o a') : qfi m 65 T = o := h.2.2.2.1
theorem MO.f2 {m : QM} {T B : Nat} {n o : Int32} {a' : Nat} (h : MO m T B n o a') : qfr m 66 T = some a' := h.2.2.2.2.1
theorem MO.f3 {m : QM} {T B : Nat} {n o : Int32} {a' : Nat} (h : MO m T B n o a') : qfr m 67 T = some B := h.2.2.2.2.2.1
theorem MO.f4 {m : QM} {T B : Nat} {n o : Int32} {a' : Nat} (h : MO m T B n o a') : qfi m 68 T = 0 := h.2.2.2.2.2.2.1
theorem MO.f5 {m : QM} {T B : Nat} {n o : Int32} {a' : Nat} (h : MO m T B n o a') : qfr m 69 T = some (B + 1) := h.2.2.2.2.2.2.2.1
theorem MO.f6 {m : QM} {T B : Nat} {n o : Int32} {a' : Nat} (h : MO m T B n o a') : qfr m 70 T = some (B + 3) := h.2.2.2.2.2.2.2.2.1
theorem MO.t5 {m : QM} {T B : Nat} {n o : Int32} {a' : Nat} (h : MO m T B n o a') : qty m B = (4, 5, 5) := h.2.2.2.2.2.2.2.2.2.1
theorem MO.t6 {m : QM} {T B : Nat} {n o : Int32} {a' : Nat} (h : MO m T B n o a') : qty m (B + 1) = (1, 4, 0) := h.2.2.2.2.2.2.2.2.2.2.1
theorem MO.t7 {m : QM} {T B : Nat} {n o : Int32} {a' : Nat} (h : MO m T B n o a') : qty m (B + 2) = (4, 2, 305) := h.2.2.2.2.2.2.2.2.2.2.2.1
theorem MO.t8 {m : QM} {T B : Nat} {n o : Int32} {a' : Nat} (h : MO m T B n o a') : qty m (B + 3) = (1, 4, 0) := h.2.2.2.2.2.2.2.2.2.2.2.2.1
theorem MO.t9 {m : QM} {T B : Nat} {n o : Int32} {a' : Nat} (h : MO m T B n o a') : qty m (B + 4) = (4, 2, 305) := h.2.2.2.2.2.2.2.2.2.2.2.2.2.1
theorem MO.r6 {m : QM} {T B : Nat} {n o : Int32} {a' : Nat} (h : MO m T B n o a') : qfr m 256 (B + 1) = some (B + 2) := h.2.2.2.2.2.2.2.2.2.2.2.2.2.2.1
theorem MO.r8 {m : QM} {T B : Nat} {n o : Int32} {a' : Nat} (h : MO m T B n o a') : qfr m 256 (B + 3) = some (B + 4) := h.2.2.2.2.2.2.2.2.2.2.2.2.2.2.2.1
theorem MO.a5 {m : QM} {T B : Nat} {n o : Int32} {a' : Nat} (h : MO m T B n o a') : ∀ j, qar m B j = none := h.2.2.2.2.2.2.2.2.2.2.2.2.2.2.2.2.1
theorem MO.a7 {m : QM} {T B : Nat} {n o : Int32} {a' : Nat} (h : MO m T B n o a') : ∀ j, qar m (B + 2) j = none := h.2.2.2.2.2.2.2.2.2.2.2.2.2.2.2.2.2.1
theorem MO.a9 {m : QM} {T B : Nat} {n o : Int32} {a' : Nat} (h : MO m T B n o a') : ∀ j, qar m (B + 4) j = none := h.2.2.2.2.2.2.2.2.2.2.2.2.2.2.2.2.2.2
def O1 (X : QM) (T : Nat) : QM := sfr (qnewr X 5 5) 67 T (some (qtop X))
def O2 (X : QM) (T : Nat) : QM := sfr (qnewr (qnew (O1 X T) 4) 2 305) 256 (qtop X + 1) (some (qtop X + 2))
def O3 (X : QM) (T : Nat) : QM := sfr (O2 X T) 69 T (some (qtop X + 1))
def O4 (X : QM) (T : Nat) : QM := sfr (qnewr (qnew (O3 X T) 4) 2 305) 256 (qtop X + 3) (some (qtop X + 4))
def O5 (X : QM) (T : Nat) (n o : Int32) (a' : Nat) : QM := sfr (sfi (sfi (sfr (O4 X T) 70 T (some (qtop X + 3))) 64 T n) 65 T o) 66 T (some a')
section C23
variable {sv : Nat} {G : GM} {S : MS} {m M X : QM} {t : Int} {z d c l p : Int} {T B a' : Nat} {n o : Int32}
theorem x_newr {c cap : Nat} {n : Int} (h0 : 0 ≤ n) (h1 : n ≤ cap) (h2 : cap < 10000) : xnewr c (I n) cap m = some (.ok (some (qtop m)), qnewr m c n.toNat) := by
  show (if 0 ≤ (I n).toInt ∧ (I n).toInt ≤ cap then some (Except.ok (some (qtop m)), Jvm.Pilot.CMeetingServerLaw_law_r1901_9528e9.qnewr m c (I n).toNatClampNeg) else none) = _
  rw [toInt_I (by omega) (by omega), clamp_I h0 (by omega), if_pos ⟨h0, h1⟩]
theorem o5_t (b : Nat) : qty (O5 X T n o a') b = va_up (va_up (va_up (va_up (va_up (qty X) (qtop X) (4, 5, 5)) (qtop X + 1) (1, 4, 0)) (qtop X + 2) (4, 2, 305)) (qtop X + 3) (1, 4, 0)) (qtop X + 4) (4, 2, 305) b := rfl
theorem o5_a (b : Nat) : qar (O5 X T n o a') b = va_up (va_up (va_up (qar X) (qtop X) fun _ => none) (qtop X + 2) fun _ => none) (qtop X + 4) (fun _ => none) b := rfl
theorem c_binit {b : Nat} (hb : qty m b = (1, 4, 0)) (hlt : b < qtop m) : F_X3_init b m = some (.ok (), sfr (qnewr m 2 305) 256 b (some (qtop m))) := by
  unfold F_X3_init
  simp only [xb_xp, xb_as]
  have e : xnewr 2 305 305 m = some (.ok (some (qtop m)), qnewr m 2 305) := x_newr (n := 305) (by decide) (by decide) (by decide)
  have t1 : qty (qnewr m 2 305) b = (1, 4, 0) := (va_up_diff _ _ (by omega)).trans hb
  rw [xb_ok e, xb_ok (x_sr rfl t1), xp_ap]
theorem c_minit (hT : T < qtop X) (ht : qty X T = (1, 1, 0)) : F_X0_init T n o (some a') X = some (.ok (), O5 X T n o a') := by
  unfold F_X0_init
  simp only [xb_xp, xb_as]
  have e : xnewr 5 5 5 X = some (.ok (some (qtop X)), qnewr X 5 5) := x_newr (n := 5) (by decide) (by decide) (by decide)
  have t1 : qty (qnewr X 5 5) T = (1, 1, 0) := (va_up_diff _ _ (by omega)).trans ht
  have t2 : qty (O2 X T) T = (1, 1, 0) := by
    show va_up (va_up (va_up (qty X) (qtop X) (4, 5, 5)) (qtop X + 1) (1, 4, 0)) (qtop X + 2) (4, 2, 305) T = _
    rw [va_up_diff _ _ (by omega), va_up_diff _ _ (by omega), va_up_diff _ _ (by omega), ht]
  have t4 : qty (O4 X T) T = (1, 1, 0) := by
    show va_up (va_up (va_up (va_up (va_up (qty X) (qtop X) (4, 5, 5)) (qtop X + 1) (1, 4, 0)) (qtop X + 2) (4, 2, 305)) (qtop X + 3) (1, 4, 0)) (qtop X + 4) (4, 2, 305) T = _
    rw [va_up_diff _ _ (by omega), va_up_diff _ _ (by omega), va_up_diff _ _ (by omega), va_up_diff _ _ (by omega), va_up_diff _ _ (by omega), ht]
  have k1 : qty (qnew (O1 X T) 4) (qtop X + 1) = (1, 4, 0) := va_up_same _ _ _
  have k3 : qty (qnew (O3 X T) 4) (qtop X + 3) = (1, 4, 0) := va_up_same _ _ _
  have b1 : F_X3_init (qtop X + 1) (qnew (O1 X T) 4) = some (.ok (), O2 X T) := c_binit k1 (Nat.lt_succ_self _)
  have b3 : F_X3_init (qtop X + 3) (qnew (O3 X T) 4) = some (.ok (), O4 X T) := c_binit k3 (Nat.lt_succ_self _)
  have s1 : xsr 1 3 (some T) (some (qtop X)) (qnewr X 5 5) = some (.ok (), O1 X T) := x_sr rfl t1
  have s3 : xsr 1 5 (some T) (some (qtop X + 1)) (O2 X T) = some (.ok (), O3 X T) := x_sr rfl t2
  have s5 : xsr 1 6 (some T) (some (qtop X + 3)) (O4 X T) = some (.ok (), sfr (O4 X T) 70 T (some (qtop X + 3))) := x_sr rfl t4
  have n1 : xnew 4 (O1 X T) = some (.ok (some (qtop X + 1)), qnew (O1 X T) 4) := rfl
  have n3 : xnew 4 (O3 X T) = some (.ok (some (qtop X + 3)), qnew (O3 X T) 4) := rfl
  rw [xb_ok e, xb_ok s1, xb_ok n1, xb_xo k1, xb_ok b1, xb_ok s3, xb_ok n3, xb_xo k3, xb_ok b3, xb_ok s5, xb_ok (x_si rfl (show qty (sfr (O4 X T) 70 T (some (qtop X + 3))) T = (1, 1, 0) from t4)), xb_ok (x_si rfl (show qty (sfi (sfr (O4 X T) 70 T (some (qtop X + 3))) 64 T n) T = (1, 1, 0) from t4)), xb_ok (x_sr rfl (show qty (sfi (sfi (sfr (O4 X T) 70 T (some (qtop X + 3))) 64 T n) 65 T o) T = (1, 1, 0) from t4)), xp_ap]; rfl
theorem o5_mo (hT : T < qtop X) (ht : qty X T = (1, 1, 0)) (hz : qfi X 68 T = 0) : MO (O5 X T n o a') T (qtop X) n o a' := by
  have e1 : ∀ f, qfr (O1 X T) f T = if f = 67 then some (qtop X) else qfr X f T := fun f => by
    by_cases q : f = 67
    · subst q; rw [if_pos rfl]; exact fr_s
    · rw [if_neg q]; exact fr_n q
  have e2 : ∀ f, qfr (O2 X T) f T = qfr (O1 X T) f T := fun f => (fr_a (by omega)).trans (va_up_diff _ _ (by show ¬ T = qtop X + 1; omega))
  have e4 : ∀ f, qfr (O4 X T) f T = if f = 69 then some (qtop X + 1) else qfr (O2 X T) f T := fun f => by
    refine ((fr_a (m := qnewr (qnew (O3 X T) 4) 2 305) (by omega)).trans (va_up_diff _ _ (by show ¬ T = qtop X + 3; omega))).trans ?_
    by_cases q : f = 69
    · subst q; rw [if_pos rfl]; exact fr_s
    · rw [if_neg q]; exact fr_n q
  have i4 : ∀ f, qfi (O4 X T) f T = qfi X f T := fun f => by
    show va_up (va_up (qfi X f) (qtop X + 1) 0) (qtop X + 3) 0 T = _
    rw [va_up_diff _ _ (by omega), va_up_diff _ _ (by omega)]
  refine ⟨Nat.le_refl _, ?_, ?_, ?_, fr_s, ?_, ?_, ?_, ?_, ?_, ?_, ?_, ?_, ?_, ?_, ?_, fun j => ?_, fun j => ?_, fun j => ?_⟩
  · rw [o5_t, va_up_diff _ _ (by omega), va_up_diff _ _ (by omega), va_up_diff _ _ (by omega), va_up_diff _ _ (by omega), va_up_diff _ _ (by omega), ht]
  · show qfi (sfi (sfi (sfr (O4 X T) 70 T (some (qtop X + 3))) 64 T n) 65 T o) 64 T = n
    rw [fi_n (by decide), fi_s]
  · show qfi (sfi (sfi (sfr (O4 X T) 70 T (some (qtop X + 3))) 64 T n) 65 T o) 65 T = o
    rw [fi_s]
  · refine (fr_n (by decide)).trans ?_
    show qfr (sfr (O4 X T) 70 T (some (qtop X + 3))) 67 T = _
    rw [fr_n (by decide), e4, if_neg (by decide), e2, e1, if_pos rfl]
  · show qfi (sfi (sfi (sfr (O4 X T) 70 T (some (qtop X + 3))) 64 T n) 65 T o) 68 T = 0
    rw [fi_n (by decide), fi_n (by decide)]
    exact (i4 68).trans hz
  · refine (fr_n (by decide)).trans ?_
    show qfr (sfr (O4 X T) 70 T (some (qtop X + 3))) 69 T = _
    rw [fr_n (by decide), e4, if_pos rfl]
  · refine (fr_n (by decide)).trans ?_
    show qfr (sfr (O4 X T) 70 T (some (qtop X + 3))) 70 T = _
    rw [fr_s]
  · rw [o5_t, va_up_diff _ _ (by omega), va_up_diff _ _ (by omega), va_up_diff _ _ (by omega), va_up_diff _ _ (by omega), va_up_same]
  · rw [o5_t, va_up_diff _ _ (by omega), va_up_diff _ _ (by omega), va_up_diff _ _ (by omega), va_up_same]
  · rw [o5_t, va_up_diff _ _ (by omega), va_up_diff _ _ (by omega), va_up_same]
  · rw [o5_t, va_up_diff _ _ (by omega), va_up_same]
  · rw [o5_t, va_up_same]
  · refine (fr_a (by omega)).trans ?_
    show qfr (sfr (O4 X T) 70 T (some (qtop X + 3))) 256 (qtop X + 1) = _
    rw [fr_a (by omega)]
    refine (fr_a (m := qnewr (qnew (O3 X T) 4) 2 305) (by omega)).trans ((va_up_diff _ _ (by show ¬ qtop X + 1 = qtop X + 3; omega)).trans ?_)
    exact (fr_a (m := O2 X T) (by omega)).trans fr_s
  · refine (fr_a (by omega)).trans ?_
    show qfr (sfr (O4 X T) 70 T (some (qtop X + 3))) 256 (qtop X + 3) = _
    rw [fr_a (by omega)]
    exact fr_s
  · rw [o5_a, va_up_diff _ _ (by omega), va_up_diff _ _ (by omega), va_up_same]
  · rw [o5_a, va_up_diff _ _ (by omega), va_up_same]
  · rw [o5_a, va_up_same]
theorem o5_g (hT : qtop m ≤ T) (hX : GROW m X) : GROW m (O5 X T n o a') := by
  have := hX.top
  unfold O5 O4 O3 O2 O1
  refine GROW.sfr (GROW.sfi (GROW.sfi (GROW.sfr (GROW.sfr (GROW.qnewr (GROW.qnew (GROW.sfr (GROW.sfr (GROW.qnewr (GROW.qnew (GROW.sfr hX.qnewr hT))) (by omega)) hT))) (by omega)) hT) hT) hT) hT
end C23
