def ri0 (z d c l : Int) : Nat → Int := fun J => if J = 10 then z else if J = 11 then d else if J = 12 then c else if J = 13 then l else if J = 14 then 1 else if J = 15 then 127 else if J = 16 then 1 else 0
def rw0 (s : Int) : Nat → Int32 := fun y => if y < 60 then I s else 0
def N1 (m : QM) (sv : Nat) (z d c l : Int) : QM := sfi (sfi (sfi (sfr (sfi (sfi (sfi (sfi (qnew m 5) 325 (qtop m) (1)) 326 (qtop m) (127)) 327 (qtop m) (1)) 320 (qtop m) (0)) 321 (qtop m) (some (zA sv z))) 322 (qtop m) (I d)) 323 (qtop m) (I c)) 324 (qtop m) (I l)
def N2 (m : QM) (sv : Nat) (z d c l : Int) : QM := sfr (qnewi (N1 m sv z d c l) 0 60 (rw0 (-1))) 332 (qtop m) (some (qtop m + 1))
def N3 (m : QM) (sv : Nat) (z d c l : Int) : QM := sfr (qnewi (N2 m sv z d c l) 0 60 (rw0 0)) 333 (qtop m) (some (qtop m + 2))
section C22
variable {sv : Nat} {G : GM} {S : MS} {m M : QM} {t : Int} {z d c l p : Int}
theorem IA.newi {a tt n : Nat} {f : Int → Int} {w : Nat → Int32} (h : IA sv m a f) : IA sv (qnewi m tt n w) a f := h.fr IMM.qnewi
theorem n3_g : GROW m (N3 m sv z d c l) := by
  unfold N3 N2 N1
  repeat' first
    | exact (GROW.refl m).qnew
    | refine GROW.sfi ?_ (Nat.le_refl _)
    | refine GROW.sfr ?_ (Nat.le_refl _)
    | refine GROW.sfl ?_ (Nat.le_refl _)
    | refine GROW.qnewi ?_
theorem n3_t : qty (N3 m sv z d c l) (qtop m) = (1, 5, 0) := by
  show va_up (va_up (va_up (qty m) (qtop m) (1, 5, 0)) (qtop m + 1) (2, 0, 60)) (qtop m + 2) (2, 0, 60) (qtop m) = _
  rw [va_up_diff _ _ (by omega), va_up_diff _ _ (by omega), va_up_same]
theorem n3_top : qtop (N3 m sv z d c l) = qtop m + 3 := rfl
theorem c_vinit (ht : sv + 23 ≤ qtop m) (h0 : 0 ≤ d) (h1 : d < 60) : F_X4_init (qtop m) (some (zA sv z)) (I d) (I c) (I l) (qnew m 5) = some (.ok (), FDM (N3 m sv z d c l) (qtop m) (datR (ri0 z d c l) fun _ => 0)) ∧ MK sv m (FDM (N3 m sv z d c l) (qtop m) (datR (ri0 z d c l) fun _ => 0)) (qtop m) (ri0 z d c l) (updl (fun _ => 0) 23 (datR (ri0 z d c l) fun _ => 0)) (fun _ => 0) := by
  have hA : qty (qnew m 5) (qtop m) = (1, 5, 0) := va_up_same _ _ _
  have zi : ∀ f, qfi (qnew m 5) f (qtop m) = 0 := fun f => va_up_same _ _ _
  have zl : ∀ f, qfl (qnew m 5) f (qtop m) = 0 := fun f => va_up_same _ _ _
  have rb : RB (ri0 z d c l) := ⟨⟨h0, h1⟩, (show (1 : Int) ≤ 1 ∧ (1 : Int) ≤ 28 by decide), (show (1 : Int) ≤ 127 ∧ (127 : Int) ≤ 127 by decide), (show (1 : Int) ≤ 1 ∧ (1 : Int) ≤ 10 by decide)⟩
  have lb : LB ((fun _ => 0 : Nat → Int64) 20) := by unfold LB; decide
  have f2 : qfi (N3 m sv z d c l) 322 (qtop m) = I (ri0 z d c l 11) := by
    show qfi (sfi (sfi (sfi (sfr (sfi (sfi (sfi (sfi (qnew m 5) 325 (qtop m) (1)) 326 (qtop m) (127)) 327 (qtop m) (1)) 320 (qtop m) (0)) 321 (qtop m) (some (zA sv z))) 322 (qtop m) (I d)) 323 (qtop m) (I c)) 324 (qtop m) (I l)) 322 (qtop m) = I d
    simp (disch := decide) only [fi_s, fi_n, fi_fr]
  have f5 : qfi (N3 m sv z d c l) 325 (qtop m) = I (ri0 z d c l 14) := by
    show qfi (sfi (sfi (sfi (sfr (sfi (sfi (sfi (sfi (qnew m 5) 325 (qtop m) (1)) 326 (qtop m) (127)) 327 (qtop m) (1)) 320 (qtop m) (0)) 321 (qtop m) (some (zA sv z))) 322 (qtop m) (I d)) 323 (qtop m) (I c)) 324 (qtop m) (I l)) 325 (qtop m) = 1
    simp (disch := decide) only [fi_s, fi_n, fi_fr]
  have f6 : qfi (N3 m sv z d c l) 326 (qtop m) = I (ri0 z d c l 15) := by
    show qfi (sfi (sfi (sfi (sfr (sfi (sfi (sfi (sfi (qnew m 5) 325 (qtop m) (1)) 326 (qtop m) (127)) 327 (qtop m) (1)) 320 (qtop m) (0)) 321 (qtop m) (some (zA sv z))) 322 (qtop m) (I d)) 323 (qtop m) (I c)) 324 (qtop m) (I l)) 326 (qtop m) = 127
    simp (disch := decide) only [fi_s, fi_n, fi_fr]
  have f7 : qfi (N3 m sv z d c l) 327 (qtop m) = I (ri0 z d c l 16) := by
    show qfi (sfi (sfi (sfi (sfr (sfi (sfi (sfi (sfi (qnew m 5) 325 (qtop m) (1)) 326 (qtop m) (127)) 327 (qtop m) (1)) 320 (qtop m) (0)) 321 (qtop m) (some (zA sv z))) 322 (qtop m) (I d)) 323 (qtop m) (I c)) 324 (qtop m) (I l)) 327 (qtop m) = 1
    simp (disch := decide) only [fi_s, fi_n, fi_fr]
  have f8 : qfl (N3 m sv z d c l) 328 (qtop m) = 0 := zl _
  have f9 : qfl (N3 m sv z d c l) 329 (qtop m) = 0 := zl _
  have fd := c_fdm (M := N3 m sv z d c l) (a := qtop m) (ri := ri0 z d c l) (rl := fun _ => 0) (by rw [n3_top]; omega) n3_t f2 f5 f6 f7 f8 f9 rb lb
  refine ⟨?_, ?_, ?_, Nat.le_refl _⟩
  · unfold F_X4_init
    simp only [xb_xp, xb_as]
    rw [xb_ok (x_si (v := (1 : Int32)) rfl (by exact hA))]
    rw [xb_ok (x_si (v := (127 : Int32)) rfl (by exact hA))]
    rw [xb_ok (x_si (v := (1 : Int32)) rfl (by exact hA))]
    rw [xb_ok (x_si (v := (0 : Int32)) rfl (by exact hA))]
    rw [xb_ok (x_sr rfl (by exact hA))]
    rw [xb_ok (x_si rfl (by exact hA))]
    rw [xb_ok (x_si rfl (by exact hA))]
    rw [xb_ok (x_si rfl (by exact hA))]
    have t2 : qty (N2 m sv z d c l) (qtop m) = (1, 5, 0) := by
      show va_up (va_up (qty m) (qtop m) (1, 5, 0)) (qtop m + 1) (2, 0, 60) (qtop m) = _
      rw [va_up_diff _ _ (by omega), va_up_same]
    have r1 : F_X4_rowOf (-1) (N1 m sv z d c l) = some (.ok (some (qtop m + 1)), qnewi (N1 m sv z d c l) 0 60 (rw0 (-1))) := by
      have := c_rowOf (m := N1 m sv z d c l) (v := -1)
      rw [← glm1] at this
      exact this
    have r2 : F_X4_rowOf 0 (N2 m sv z d c l) = some (.ok (some (qtop m + 2)), qnewi (N2 m sv z d c l) 0 60 (rw0 0)) := c_rowOf (m := N2 m sv z d c l) (v := 0)
    have s1 : xsr 5 12 (some (qtop m)) (some (qtop m + 1)) (qnewi (N1 m sv z d c l) 0 60 (rw0 (-1))) = some (.ok (), N2 m sv z d c l) := x_sr rfl t2
    have s2 : xsr 5 13 (some (qtop m)) (some (qtop m + 2)) (qnewi (N2 m sv z d c l) 0 60 (rw0 0)) = some (.ok (), N3 m sv z d c l) := x_sr rfl n3_t
    refine Eq.trans (xb_ok r1) ?_
    refine Eq.trans (xb_ok s1) ?_
    refine Eq.trans (xb_ok r2) ?_
    refine Eq.trans (xb_ok s2) ?_
    rw [xb_xo n3_t, xb_ok fd, xp_ap]
  · have i1 : IA sv (qnewi (N1 m sv z d c l) 0 60 (rw0 (-1))) (qtop m + 1) (fun _ => -1) := IA_new rfl (Nat.le_trans ht (Nat.le_succ _)) (fun e x y => if_pos (by omega))
    have i2 : IA sv (N2 m sv z d c l) (qtop m + 1) (fun _ => -1) := i1
    have i3 : IA sv (N3 m sv z d c l) (qtop m + 1) (fun _ => -1) := i2.newi (tt := 0) (n := 60) (w := rw0 0)
    have j1 : IA sv (qnewi (N2 m sv z d c l) 0 60 (rw0 0)) (qtop m + 2) (fun _ => 0) := IA_new rfl (Nat.le_trans ht (by show qtop m ≤ qtop m + 2; omega)) (fun e x y => if_pos (by omega))
    have j2 : IA sv (N3 m sv z d c l) (qtop m + 2) (fun _ => 0) := j1
    have hf : GROW (N3 m sv z d c l) (qnewi (N3 m sv z d c l) 0 (cnt (hl (datR (ri0 z d c l) fun _ => 0)) 60).toNat (drw (datR (ri0 z d c l) fun _ => 0) 60)) := (GROW.refl _).qnewi
    have k1 : IA sv (FDM (N3 m sv z d c l) (qtop m) (datR (ri0 z d c l) fun _ => 0)) (qtop m + 1) (fun _ => -1) := i3.newi (tt := 0) (n := (cnt (hl (datR (ri0 z d c l) fun _ => 0)) 60).toNat) (w := drw (datR (ri0 z d c l) fun _ => 0) 60)
    have k2 : IA sv (FDM (N3 m sv z d c l) (qtop m) (datR (ri0 z d c l) fun _ => 0)) (qtop m + 2) (fun _ => 0) := j2.newi (tt := 0) (n := (cnt (hl (datR (ri0 z d c l) fun _ => 0)) 60).toNat) (w := drw (datR (ri0 z d c l) fun _ => 0) 60)
    have kd : DR sv (FDM (N3 m sv z d c l) (qtop m) (datR (ri0 z d c l) fun _ => 0)) (qtop m + 3) (datR (ri0 z d c l) fun _ => 0) := DR_new (M := N3 m sv z d c l) (Nat.le_trans ht n3_g.top)
    generalize hx : datR (ri0 z d c l) (fun _ => 0) = x at k1 k2 kd hf ⊢
    refine ⟨ht, ?_, ?_, ?_, ?_, ?_, ?_, ?_, ?_, ?_, ?_, ?_, ?_, ?_, ?_, ?_, ?_, ⟨qtop m + 3, fr_s, kd⟩, ⟨qtop m + 1, ?_, k1.congr (fun e a b => ?_)⟩, ⟨qtop m + 2, ?_, k2⟩⟩
    · show qtop m < qtop m + 3 + 1; omega
    · exact (hf.ty _ (by rw [n3_top]; omega)).trans n3_t
    · show qfi (sfi (sfi (sfi (sfr (sfi (sfi (sfi (sfi (qnew m 5) 325 (qtop m) (1)) 326 (qtop m) (127)) 327 (qtop m) (1)) 320 (qtop m) (0)) 321 (qtop m) (some (zA sv z))) 322 (qtop m) (I d)) 323 (qtop m) (I c)) 324 (qtop m) (I l)) 320 (qtop m) = 0
      simp (disch := decide) only [fi_s, fi_n, fi_fr]
    · show qfr (sfr (sfr (sfr (sfi (sfi (sfi (sfr (sfi (sfi (sfi (sfi (qnew m 5) 325 (qtop m) (1)) 326 (qtop m) (127)) 327 (qtop m) (1)) 320 (qtop m) (0)) 321 (qtop m) (some (zA sv z))) 322 (qtop m) (I d)) 323 (qtop m) (I c)) 324 (qtop m) (I l)) 332 (qtop m) (some (qtop m + 1))) 333 (qtop m) (some (qtop m + 2))) 331 (qtop m) (some (qtop m + 3))) 321 (qtop m) = some (zA sv z)
      simp (disch := decide) only [fr_s, fr_n, fr_fi]
    · exact f2
    · show qfi (sfi (sfi (sfi (sfr (sfi (sfi (sfi (sfi (qnew m 5) 325 (qtop m) (1)) 326 (qtop m) (127)) 327 (qtop m) (1)) 320 (qtop m) (0)) 321 (qtop m) (some (zA sv z))) 322 (qtop m) (I d)) 323 (qtop m) (I c)) 324 (qtop m) (I l)) 323 (qtop m) = I c
      simp (disch := decide) only [fi_s, fi_n, fi_fr]
    · show qfi (sfi (sfi (sfi (sfr (sfi (sfi (sfi (sfi (qnew m 5) 325 (qtop m) (1)) 326 (qtop m) (127)) 327 (qtop m) (1)) 320 (qtop m) (0)) 321 (qtop m) (some (zA sv z))) 322 (qtop m) (I d)) 323 (qtop m) (I c)) 324 (qtop m) (I l)) 324 (qtop m) = I l
      simp (disch := decide) only [fi_s, fi_n, fi_fr]
    · exact f5
    · exact f6
    · exact f7
    · exact (fl_n (m := N3 m sv z d c l) (f := 330) (a := qtop m) (x := x) (by decide)).trans f8
    · exact (fl_n (m := N3 m sv z d c l) (f := 330) (a := qtop m) (x := x) (by decide)).trans f9
    · exact fl_s (m := N3 m sv z d c l) (f := 330) (a := qtop m) (x := x)
    · show qfi (sfi (sfi (sfi (sfr (sfi (sfi (sfi (sfi (qnew m 5) 325 (qtop m) (1)) 326 (qtop m) (127)) 327 (qtop m) (1)) 320 (qtop m) (0)) 321 (qtop m) (some (zA sv z))) 322 (qtop m) (I d)) 323 (qtop m) (I c)) 324 (qtop m) (I l)) 334 (qtop m) = 0
      simp (disch := decide) only [fi_s, fi_n, fi_fr]
      exact zi _
    · show qfi (sfi (sfi (sfi (sfr (sfi (sfi (sfi (sfi (qnew m 5) 325 (qtop m) (1)) 326 (qtop m) (127)) 327 (qtop m) (1)) 320 (qtop m) (0)) 321 (qtop m) (some (zA sv z))) 322 (qtop m) (I d)) 323 (qtop m) (I c)) 324 (qtop m) (I l)) 335 (qtop m) = 0
      simp (disch := decide) only [fi_s, fi_n, fi_fr]
      exact zi _
    · show qfi (sfi (sfi (sfi (sfr (sfi (sfi (sfi (sfi (qnew m 5) 325 (qtop m) (1)) 326 (qtop m) (127)) 327 (qtop m) (1)) 320 (qtop m) (0)) 321 (qtop m) (some (zA sv z))) 322 (qtop m) (I d)) 323 (qtop m) (I c)) 324 (qtop m) (I l)) 336 (qtop m) = 0
      simp (disch := decide) only [fi_s, fi_n, fi_fr]
      exact zi _
    · show qfr (sfr (sfr (sfr (sfi (sfi (sfi (sfr (sfi (sfi (sfi (sfi (qnew m 5) 325 (qtop m) (1)) 326 (qtop m) (127)) 327 (qtop m) (1)) 320 (qtop m) (0)) 321 (qtop m) (some (zA sv z))) 322 (qtop m) (I d)) 323 (qtop m) (I c)) 324 (qtop m) (I l)) 332 (qtop m) (some (qtop m + 1))) 333 (qtop m) (some (qtop m + 2))) 331 (qtop m) (some (qtop m + 3))) 332 (qtop m) = some (qtop m + 1)
      simp (disch := decide) only [fr_s, fr_n, fr_fi]
    · show (if hl ((updl (fun _ => 0) 23 x) 22) e = true then (0 : Int) % 2048 else -1) = -1
      rw [show (updl (fun _ => 0) 23 x) 22 = (0 : Int64) from rfl, hl0 a b]; rfl
    · show qfr (sfr (sfr (sfr (sfi (sfi (sfi (sfr (sfi (sfi (sfi (sfi (qnew m 5) 325 (qtop m) (1)) 326 (qtop m) (127)) 327 (qtop m) (1)) 320 (qtop m) (0)) 321 (qtop m) (some (zA sv z))) 322 (qtop m) (I d)) 323 (qtop m) (I c)) 324 (qtop m) (I l)) 332 (qtop m) (some (qtop m + 1))) 333 (qtop m) (some (qtop m + 2))) 331 (qtop m) (some (qtop m + 3))) 333 (qtop m) = some (qtop m + 2)
      simp (disch := decide) only [fr_s, fr_n, fr_fi]
  · exact ((n3_g (sv := sv) (z := z) (d := d) (c := c) (l := l)).qnewi.sfl (Nat.le_refl _)).sfr (Nat.le_refl _)
end C22
