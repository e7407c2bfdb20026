def FRM (c e : Nat) (A M : QM) : Prop := ∀ b, b < c → qty M b = qty A b ∧ (∀ f, qfi M f b = qfi A f b) ∧ (∀ f, qfl M f b = qfl A f b) ∧ (∀ f, qfr M f b = qfr A f b) ∧ qai M b = qai A b ∧ qal M b = qal A b ∧ (b ≠ e → qar M b = qar A b)
theorem FRM.refl (c e : Nat) (A : QM) : FRM c e A A := fun _ _ => ⟨rfl, fun _ => rfl, fun _ => rfl, fun _ => rfl, rfl, rfl, fun _ => rfl⟩
theorem FRM.step {c e j : Nat} {x : Option Nat} {A M M' : QM} (h : FRM c e A M) (g : GROW M M') (hc : c ≤ qtop M) : FRM c e A (sar M' e j x) := fun b hb => by
  obtain ⟨h1, h2, h3, h4, h5, h6, h7⟩ := h b hb
  have hb' : b < qtop M := by omega
  exact ⟨(g.ty b hb').trans h1, fun f => (g.fi f b hb').trans (h2 f), fun f => (g.fl f b hb').trans (h3 f), fun f => (g.fr f b hb').trans (h4 f), (g.ai b hb').trans h5, (g.al b hb').trans h6, fun q => (va_up_diff _ _ q).trans ((g.ar b hb').trans (h7 q))⟩
def ZN (m : QM) (sv j : Nat) : QM := sar (sfi (sfi (qnew m 6) 385 (qtop m) (-1)) 386 (qtop m) (-1)) (sv + 1) j (some (qtop m))
def PN (m : QM) (sv j : Nat) : QM := sar (sfr (qnewi (qnew m 3) 0 8 (fun _ => 0)) 194 (qtop m) (some (qtop m + 1))) (sv + 2) j (some (qtop m))
def PZ (sv : Nat) (A : QM) (j : Nat) (M : QM) : Prop := qtop M = sv + 7 + j ∧ FRM (sv + 7) (sv + 1) A M ∧ ∀ z, z < j → qar M (sv + 1) z = some (sv + 7 + z) ∧ qty M (sv + 7 + z) = (1, 6, 0) ∧ qfi M 384 (sv + 7 + z) = 0 ∧ qfi M 385 (sv + 7 + z) = -1
def PP (sv : Nat) (A : QM) (j : Nat) (M : QM) : Prop := qtop M = sv + 10 + 2 * j ∧ FRM (sv + 10) (sv + 2) A M ∧ ∀ p, p < j → qar M (sv + 2) p = some (sv + 10 + 2 * p) ∧ qty M (sv + 10 + 2 * p) = (1, 3, 0) ∧ qfr M 194 (sv + 10 + 2 * p) = some (sv + 10 + 2 * p + 1) ∧ qty M (sv + 10 + 2 * p + 1) = (2, 0, 8) ∧ qfi M 192 (sv + 10 + 2 * p) = 0 ∧ qfi M 193 (sv + 10 + 2 * p) = 0 ∧ ∀ i, qai M (sv + 10 + 2 * p + 1) i = 0
section C44
variable {sv : Nat} {G : GM} {S S1 : MS} {m M A : QM} {t : Int} {j : Nat}
theorem pz_step (h : PZ sv A j M) : PZ sv A (j + 1) (ZN M sv j) := by
  obtain ⟨h1, h2, h3⟩ := h
  have g : GROW M (sfi (sfi (qnew M 6) 385 (qtop M) (-1)) 386 (qtop M) (-1)) := ((GROW.refl M).qnew.sfi (Nat.le_refl _)).sfi (Nat.le_refl _)
  refine ⟨by show qtop M + 1 = _; omega, h2.step g (by omega), fun z hz => ?_⟩
  have row : ∀ z, qar (ZN M sv j) (sv + 1) z = if z = j then some (qtop M) else qar M (sv + 1) z := fun z => by
    show va_up (qar M) (sv + 1) (va_up (qar M (sv + 1)) j (some (qtop M))) (sv + 1) z = _
    rw [va_up_same]
    by_cases e : z = j
    · subst e; rw [va_up_same, if_pos rfl]
    · rw [va_up_diff _ _ e, if_neg e]
  rw [row]
  by_cases e : z = j
  · subst e
    rw [if_pos rfl, ← h1]
    refine ⟨rfl, va_up_same _ _ _, ?_, ?_⟩
    · show qfi (sfi (sfi (qnew M 6) 385 (qtop M) (-1)) 386 (qtop M) (-1)) 384 (qtop M) = 0
      rw [fi_n (by decide), fi_n (by decide)]; exact va_up_same _ _ _
    · show qfi (sfi (sfi (qnew M 6) 385 (qtop M) (-1)) 386 (qtop M) (-1)) 385 (qtop M) = -1
      rw [fi_n (by decide), fi_s]
  · rw [if_neg e]
    have := h3 z (by omega)
    exact ⟨this.1, (g.ty _ (by omega)).trans this.2.1, (g.fi _ _ (by omega)).trans this.2.2.1, (g.fi _ _ (by omega)).trans this.2.2.2⟩
theorem pp_step (h : PP sv A j M) : PP sv A (j + 1) (PN M sv j) := by
  obtain ⟨h1, h2, h3⟩ := h
  have g : GROW M (sfr (qnewi (qnew M 3) 0 8 (fun _ => 0)) 194 (qtop M) (some (qtop M + 1))) := ((GROW.refl M).qnew.qnewi).sfr (Nat.le_refl _)
  refine ⟨by show qtop M + 1 + 1 = _; omega, h2.step g (by omega), fun p hp => ?_⟩
  have row : ∀ z, qar (PN M sv j) (sv + 2) z = if z = j then some (qtop M) else qar M (sv + 2) z := fun z => by
    show va_up (qar M) (sv + 2) (va_up (qar M (sv + 2)) j (some (qtop M))) (sv + 2) z = _
    rw [va_up_same]
    by_cases e : z = j
    · subst e; rw [va_up_same, if_pos rfl]
    · rw [va_up_diff _ _ e, if_neg e]
  rw [row]
  by_cases e : p = j
  · subst e
    rw [if_pos rfl, ← h1]
    refine ⟨rfl, ?_, (show qfr (sfr (qnewi (qnew M 3) 0 8 (fun _ => 0)) 194 (qtop M) (some (qtop M + 1))) 194 (qtop M) = some (qtop M + 1) from fr_s), ?_, va_up_same _ _ _, va_up_same _ _ _, fun i => ?_⟩
    · show va_up (va_up (qty M) (qtop M) (1, 3, 0)) (qtop M + 1) (2, 0, 8) (qtop M) = _
      rw [va_up_diff _ _ (by omega), va_up_same]
    · show va_up (va_up (qty M) (qtop M) (1, 3, 0)) (qtop M + 1) (2, 0, 8) (qtop M + 1) = _
      rw [va_up_same]
    · show va_up (qai M) (qtop M + 1) (fun _ => 0) (qtop M + 1) i = 0
      rw [va_up_same]
  · rw [if_neg e]
    have := h3 p (by omega)
    exact ⟨this.1, (g.ty _ (by omega)).trans this.2.1, (g.fr _ _ (by omega)).trans this.2.2.1, (g.ty _ (by omega)).trans this.2.2.2.1, (g.fi _ _ (by omega)).trans this.2.2.2.2.1, (g.fi _ _ (by omega)).trans this.2.2.2.2.2.1, fun i => (congrFun (g.ai _ (by omega)) i).trans (this.2.2.2.2.2.2 i)⟩
def Q1 (m : QM) (sv : Nat) : QM := sfr (qnewr m 6 3) 448 sv (some (sv + 1))
def Q2 (m : QM) (sv : Nat) : QM := sfr (qnewr (Q1 m sv) 3 5) 449 sv (some (sv + 2))
def Q3 (m : QM) (sv : Nat) : QM := sfr (qnewr (Q2 m sv) 1 8) 450 sv (some (sv + 3))
def Q4 (m : QM) (sv : Nat) : QM := sfr (qnewr (Q3 m sv) 2 150) 451 sv (some (sv + 4))
def Q5 (m : QM) (sv : Nat) : QM := sfr (qnewi (Q4 m sv) 0 5 (fun _ => 0)) 455 sv (some (sv + 5))
def Q6 (m : QM) (sv : Nat) : QM := sfr (qnewi (Q5 m sv) 2 1649 (fun _ => 0)) 456 sv (some (sv + 6))
theorem q6_t (h : qtop m = sv + 1) (b : Nat) : qty (Q6 m sv) b = va_up (va_up (va_up (va_up (va_up (va_up (qty m) (sv + 1) (4, 6, 3)) (sv + 2) (4, 3, 5)) (sv + 3) (4, 1, 8)) (sv + 4) (4, 2, 150)) (sv + 5) (2, 0, 5)) (sv + 6) (2, 2, 1649) b := by
  rw [show sv + 6 = qtop m + 5 by omega, show sv + 5 = qtop m + 4 by omega, show sv + 4 = qtop m + 3 by omega, show sv + 3 = qtop m + 2 by omega, show sv + 2 = qtop m + 1 by omega, ← h]; rfl
theorem q6_f (f : Nat) : qfr (Q6 m sv) f sv = if f = 456 then some (sv + 6) else if f = 455 then some (sv + 5) else if f = 451 then some (sv + 4) else if f = 450 then some (sv + 3) else if f = 449 then some (sv + 2) else if f = 448 then some (sv + 1) else qfr m f sv := by
  by_cases a : f = 456
  · subst a; rw [if_pos rfl]; exact fr_s
  rw [if_neg a]; refine (fr_n a).trans ?_
  show qfr (Q5 m sv) f sv = _
  by_cases a : f = 455
  · subst a; rw [if_pos rfl]; exact fr_s
  rw [if_neg a]; refine (fr_n a).trans ?_
  show qfr (Q4 m sv) f sv = _
  by_cases a : f = 451
  · subst a; rw [if_pos rfl]; exact fr_s
  rw [if_neg a]; refine (fr_n a).trans ?_
  show qfr (Q3 m sv) f sv = _
  by_cases a : f = 450
  · subst a; rw [if_pos rfl]; exact fr_s
  rw [if_neg a]; refine (fr_n a).trans ?_
  show qfr (Q2 m sv) f sv = _
  by_cases a : f = 449
  · subst a; rw [if_pos rfl]; exact fr_s
  rw [if_neg a]; refine (fr_n a).trans ?_
  show qfr (Q1 m sv) f sv = _
  by_cases a : f = 448
  · subst a; rw [if_pos rfl]; exact fr_s
  rw [if_neg a]; exact fr_n a
theorem c_sinit (h : qtop m = sv + 1) (ht : qty m sv = (1, 7, 0)) : ∃ A M, F_X6_init sv m = some (.ok (), M) ∧ PZ sv (Q6 m sv) 3 A ∧ PP sv A 5 M := by
  have a1 : xnewr 6 (3 : Int32) 3 (m) = some (.ok (some (sv + 1)), qnewr m 6 3) := by
    rw [← h]; exact x_newr (n := 3) (by decide) (by decide) (by decide)
  have t1 : qty (qnewr m 6 3) sv = (1, 7, 0) := (va_up_diff _ _ (by omega)).trans ht
  have s1 : xsr 7 0 (some sv) (some (sv + 1)) (qnewr m 6 3) = some (.ok (), Q1 m sv) := x_sr rfl t1
  have h2 : qtop (Q1 m sv) = sv + 2 := by show qtop m + 1 = _; omega
  have a2 : xnewr 3 (5 : Int32) 5 (Q1 m sv) = some (.ok (some (sv + 2)), qnewr (Q1 m sv) 3 5) := by
    rw [← h2]; exact x_newr (n := 5) (by decide) (by decide) (by decide)
  have t2 : qty (qnewr (Q1 m sv) 3 5) sv = (1, 7, 0) := (va_up_diff _ _ (by omega)).trans t1
  have s2 : xsr 7 1 (some sv) (some (sv + 2)) (qnewr (Q1 m sv) 3 5) = some (.ok (), Q2 m sv) := x_sr rfl t2
  have h3 : qtop (Q2 m sv) = sv + 3 := by show qtop m + 2 = _; omega
  have a3 : xnewr 1 (8 : Int32) 8 (Q2 m sv) = some (.ok (some (sv + 3)), qnewr (Q2 m sv) 1 8) := by
    rw [← h3]; exact x_newr (n := 8) (by decide) (by decide) (by decide)
  have t3 : qty (qnewr (Q2 m sv) 1 8) sv = (1, 7, 0) := (va_up_diff _ _ (by omega)).trans t2
  have s3 : xsr 7 2 (some sv) (some (sv + 3)) (qnewr (Q2 m sv) 1 8) = some (.ok (), Q3 m sv) := x_sr rfl t3
  have h4 : qtop (Q3 m sv) = sv + 4 := by show qtop m + 3 = _; omega
  have a4 : xnewr 2 (150 : Int32) 150 (Q3 m sv) = some (.ok (some (sv + 4)), qnewr (Q3 m sv) 2 150) := by
    rw [← h4]; exact x_newr (n := 150) (by decide) (by decide) (by decide)
  have t4 : qty (qnewr (Q3 m sv) 2 150) sv = (1, 7, 0) := (va_up_diff _ _ (by omega)).trans t3
  have s4 : xsr 7 3 (some sv) (some (sv + 4)) (qnewr (Q3 m sv) 2 150) = some (.ok (), Q4 m sv) := x_sr rfl t4
  have h5 : qtop (Q4 m sv) = sv + 5 := by show qtop m + 4 = _; omega
  have a5 : xnewi 0 (5 : Int32) 5 (Q4 m sv) = some (.ok (some (sv + 5)), qnewi (Q4 m sv) 0 5 (fun _ => 0)) := by
    rw [← h5]; exact x_newi (n := 5) (by decide) (by decide) (by decide)
  have t5 : qty (qnewi (Q4 m sv) 0 5 (fun _ => 0)) sv = (1, 7, 0) := (va_up_diff _ _ (by omega)).trans t4
  have s5 : xsr 7 7 (some sv) (some (sv + 5)) (qnewi (Q4 m sv) 0 5 (fun _ => 0)) = some (.ok (), Q5 m sv) := x_sr rfl t5
  have h6 : qtop (Q5 m sv) = sv + 6 := by show qtop m + 5 = _; omega
  have a6 : xnewi 2 (1649 : Int32) 1649 (Q5 m sv) = some (.ok (some (sv + 6)), qnewi (Q5 m sv) 2 1649 (fun _ => 0)) := by
    rw [← h6]; exact x_newi (n := 1649) (by decide) (by decide) (by decide)
  have t6 : qty (qnewi (Q5 m sv) 2 1649 (fun _ => 0)) sv = (1, 7, 0) := (va_up_diff _ _ (by omega)).trans t5
  have s6 : xsr 7 8 (some sv) (some (sv + 6)) (qnewi (Q5 m sv) 2 1649 (fun _ => 0)) = some (.ok (), Q6 m sv) := x_sr rfl t6
  have t6' : qty (Q6 m sv) sv = (1, 7, 0) := t6
  have z0 : PZ sv (Q6 m sv) 0 (Q6 m sv) := ⟨by show qtop m + 6 = _; omega, FRM.refl _ _ _, fun z hz => absurd hz (Nat.not_lt_zero _)⟩
  obtain ⟨A, l1, pA⟩ := xl_inv (c := fun (s20 : Int32) => xp (decide (s20 < (3 : Int32)))) (b := fun (s20 : Int32) => xb (xgr 7 0 (some sv)) fun v26 => xb (xnew 6) fun r24 => xb (xo 6 r24 fun q => F_X5_init q) fun _ => xb (xsar 6 v26 s20 r24) fun _ => xp (s20 + 1)) (fun j => I j) (PZ sv (Q6 m sv)) 3 (fun j M hj hP => by
    have hS := pz_step hP
    obtain ⟨p1, p2, p3⟩ := hP
    have f0 := p2 sv (by omega)
    have f1 := p2 (sv + 1) (by omega)
    have g : GROW M (sfi (sfi (qnew M 6) 385 (qtop M) (-1)) 386 (qtop M) (-1)) := ((GROW.refl M).qnew.sfi (Nat.le_refl _)).sfi (Nat.le_refl _)
    have n6 : qty (qnew M 6) (qtop M) = (1, 6, 0) := va_up_same _ _ _
    have i5 : F_X5_init (qtop M) (qnew M 6) = some (.ok (), sfi (sfi (qnew M 6) 385 (qtop M) (-1)) 386 (qtop M) (-1)) := by
      unfold F_X5_init
      simp only [xb_xp]
      rw [xb_ok (x_si (f := 385) rfl n6), xb_ok (x_si (f := 386) rfl (by exact n6)), xp_ap]
    have u0 : qfr M 448 sv = some (sv + 1) := (f0.2.2.2.1 448).trans (by rw [q6_f]; rfl)
    have u1 : qty (sfi (sfi (qnew M 6) 385 (qtop M) (-1)) 386 (qtop M) (-1)) (sv + 1) = (4, 6, 3) := (g.ty _ (by omega)).trans (f1.1.trans (by
      rw [q6_t h, va_up_diff _ _ (by omega), va_up_diff _ _ (by omega), va_up_diff _ _ (by omega), va_up_diff _ _ (by omega), va_up_diff _ _ (by omega), va_up_same]))
    refine ⟨by rw [xp_ap, gl3, d_lt (by omega) (by omega) (by omega) (by omega), decide_eq_true (by omega)], _, ?_, hS⟩
    rw [xb_ok (x_gr rfl (f0.1.trans t6') u0), xb_ok (x_new 6 M), xb_xo n6, xb_ok i5, xb_ok (x_sar u1 (by decide) (by omega) (by omega) (by exact n6)), xp_ap, gl1, I_add, show ((j : Int)).toNat = j by omega]; rfl) (fun M hP => by rw [xp_ap, gl3, d_lt (by omega) (by omega) (by omega) (by omega), decide_eq_false (by omega)]) 4 0 (Q6 m sv) (by decide) (by decide) z0
  have pA' := pA
  obtain ⟨b1, b2, b3⟩ := pA
  have c0 := b2 sv (by omega)
  have c2 := b2 (sv + 2) (by omega)
  have w0 : PP sv A 0 A := ⟨by omega, FRM.refl _ _ _, fun z hz => absurd hz (Nat.not_lt_zero _)⟩
  obtain ⟨M, l2, pM⟩ := xl_inv (c := fun (s31 : Int32) => xp (decide (s31 < (5 : Int32)))) (b := fun (s31 : Int32) => xb (xgr 7 1 (some sv)) fun v37 => xb (xnew 3) fun r35 => xb (xo 3 r35 fun q => F_X2_init q) fun _ => xb (xsar 3 v37 s31 r35) fun _ => xp (s31 + 1)) (fun j => I j) (PP sv A) 5 (fun j M hj hP => by
    have hS := pp_step hP
    obtain ⟨p1, p2, p3⟩ := hP
    have f0 := p2 sv (by omega)
    have f1 := p2 (sv + 2) (by omega)
    have g : GROW M (sfr (qnewi (qnew M 3) 0 8 (fun _ => 0)) 194 (qtop M) (some (qtop M + 1))) := ((GROW.refl M).qnew.qnewi).sfr (Nat.le_refl _)
    have n3 : qty (qnew M 3) (qtop M) = (1, 3, 0) := va_up_same _ _ _
    have n3' : qty (qnewi (qnew M 3) 0 8 (fun _ => 0)) (qtop M) = (1, 3, 0) := (va_up_diff _ _ (by show ¬ qtop M = qtop M + 1; omega)).trans n3
    have i8 : xnewi 0 (8 : Int32) 8 (qnew M 3) = some (.ok (some (qtop M + 1)), qnewi (qnew M 3) 0 8 (fun _ => 0)) := x_newi (n := 8) (by decide) (by decide) (by decide)
    have i5 : F_X2_init (qtop M) (qnew M 3) = some (.ok (), sfr (qnewi (qnew M 3) 0 8 (fun _ => 0)) 194 (qtop M) (some (qtop M + 1))) := by
      unfold F_X2_init
      simp only [xb_xp, xb_as]
      rw [xb_ok i8, xb_ok (x_sr (f := 194) rfl n3'), xp_ap]
    have u0 : qfr M 449 sv = some (sv + 2) := (f0.2.2.2.1 449).trans ((c0.2.2.2.1 449).trans (by rw [q6_f]; rfl))
    have u1 : qty (sfr (qnewi (qnew M 3) 0 8 (fun _ => 0)) 194 (qtop M) (some (qtop M + 1))) (sv + 2) = (4, 3, 5) := (g.ty _ (by omega)).trans (f1.1.trans (c2.1.trans (by
      rw [q6_t h, va_up_diff _ _ (by omega), va_up_diff _ _ (by omega), va_up_diff _ _ (by omega), va_up_diff _ _ (by omega), va_up_same])))
    refine ⟨by rw [xp_ap, gl5, d_lt (by omega) (by omega) (by omega) (by omega), decide_eq_true (by omega)], _, ?_, hS⟩
    rw [xb_ok (x_gr rfl (f0.1.trans (c0.1.trans t6')) u0), xb_ok (x_new 3 M), xb_xo n3, xb_ok i5, xb_ok (x_sar u1 (by decide) (by omega) (by omega) (by exact n3')), xp_ap, gl1, I_add, show ((j : Int)).toNat = j by omega]; rfl) (fun M hP => by rw [xp_ap, gl5, d_lt (by omega) (by omega) (by omega) (by omega), decide_eq_false (by omega)]) 6 0 A (by decide) (by decide) w0
  refine ⟨A, M, ?_, pA', pM⟩
  unfold F_X6_init
  simp only [xb_xp, xb_as]
  rw [xb_ok a1, xb_ok s1, xb_ok a2, xb_ok s2, xb_ok a3, xb_ok s3, xb_ok a4, xb_ok s4, xb_ok a5, xb_ok s5, xb_ok a6, xb_ok s6]
  refine Eq.trans (xb_ok l1) ?_
  refine Eq.trans (xb_ok l2) ?_
  rfl
end C44
