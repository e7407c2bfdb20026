/-! the reference is made -/
/-- behind the first i rows -/
def PR (m : QM) (mo i : Nat) (M : QM) : Prop := qtop M = mo + 1 + i ∧ GROW m M ∧ qty M mo = (1, 8, 0) ∧ (∀ f, qfi M f mo = 0) ∧ ∀ K, (kty K).1 ≠ 0 → ra K ≤ i → qfr M (512 + K) mo = some (mo + ra K) ∧ qty M (mo + ra K) = kty K ∧ ((kty K).1 = 2 → ∀ n, qai M (mo + ra K) n = 0) ∧ ((kty K).1 = 3 → ∀ n, qal M (mo + ra K) n = 0)
section C46
variable {m M : QM} {mo i K u n : Nat}
theorem GROW.qnewl {n : Nat} (h : GROW m M) : GROW m (qnewl M n) :=
  ⟨Nat.le_trans h.top (Nat.le_succ _), fun b y => (va_up_diff _ _ (by have := h.top; omega)).trans (h.ty b y), h.fi, h.fl, h.fr, h.ai, fun b y => (va_up_diff _ _ (by have := h.top; omega)).trans (h.al b y), h.ar⟩
theorem GROW.sai {a j : Nat} {x : Int32} (h : GROW m M) (ha : qtop m ≤ a) : GROW m (sai M a j x) := ⟨h.top, h.ty, h.fi, h.fl, h.fr, fun b y => (va_up_diff _ _ (by omega)).trans (h.ai b y), h.al, h.ar⟩
theorem x_newl {cap : Nat} {n : Int} (h0 : 0 ≤ n) (h1 : n ≤ cap) (h2 : cap < 10000) : xnewl (I n) cap M = some (.ok (some (qtop M)), qnewl M n.toNat) := by
  show (if 0 ≤ (I n).toInt ∧ (I n).toInt ≤ cap then some (Except.ok (some (qtop M)), Jvm.Pilot.CMeetingServerLaw_law_r9664_a5403e.qnewl M (I n).toNatClampNeg) else none) = _
  rw [toInt_I (by omega) (by omega), clamp_I h0 (by omega), if_pos ⟨h0, h1⟩]
theorem pr_i {N : Int} {cap : Nat} (h : PR m mo i M) (hm : mo = qtop m) (hK : kty K = (2, u, N.toNat)) (hr : ra K = i + 1) (n0 : 0 ≤ N) (n1 : N ≤ cap) (n2 : cap < 10000) : ∃ M', (∀ {β : Type} (f : QX β), xb (xnewi u (I N) cap) (fun v => xb (xsr 8 K (some mo) v) fun _ => f) M = f M') ∧ PR m mo (i + 1) M' := by
  obtain ⟨h1, h2, h3, h4, h5⟩ := h
  have tt : qty (qnewi M u N.toNat (fun _ => 0)) mo = (1, 8, 0) := (va_up_diff _ _ (by omega)).trans h3
  refine ⟨sfr (qnewi M u N.toNat (fun _ => 0)) (512 + K) mo (some (qtop M)), fun f => ?_, by show qtop M + 1 = _; omega, h2.qnewi.sfr (by omega), tt, h4, fun J hJ hle => ?_⟩
  · rw [xb_ok (x_newi n0 n1 n2), xb_ok (x_sr (f := 512 + K) rfl tt)]
  · have hk0 : (kty K).1 ≠ 0 := by rw [hK]; exact (show (2 : Nat) ≠ 0 by decide)
    by_cases e : J = K
    · subst e
      rw [hr, show mo + (i + 1) = qtop M by omega]
      refine ⟨fr_s, (va_up_same _ _ _).trans hK.symm, fun _ n => ?_, fun z => ?_⟩
      · exact congrFun (va_up_same (qai M) (qtop M) _) n
      · rw [hK] at z; exact absurd (show (2 : Nat) = 3 from z) (by decide)
    · have hne : ra J ≠ i + 1 := fun z => e (ra_inj J (kty_lt hJ) K (kty_lt hk0) hJ hk0 (z.trans hr.symm))
      have := h5 J hJ (by omega)
      exact ⟨(fr_n (by omega)).trans this.1, (va_up_diff _ _ (by omega)).trans this.2.1, fun z n => (congrFun (va_up_diff (qai M) _ (by omega)) n).trans (this.2.2.1 z n), this.2.2.2⟩
theorem pr_l {N : Int} {cap : Nat} (h : PR m mo i M) (hm : mo = qtop m) (hK : kty K = (3, 0, N.toNat)) (hr : ra K = i + 1) (n0 : 0 ≤ N) (n1 : N ≤ cap) (n2 : cap < 10000) : ∃ M', (∀ {β : Type} (f : QX β), xb (xnewl (I N) cap) (fun v => xb (xsr 8 K (some mo) v) fun _ => f) M = f M') ∧ PR m mo (i + 1) M' := by
  obtain ⟨h1, h2, h3, h4, h5⟩ := h
  have tt : qty (qnewl M N.toNat) mo = (1, 8, 0) := (va_up_diff _ _ (by omega)).trans h3
  refine ⟨sfr (qnewl M N.toNat) (512 + K) mo (some (qtop M)), fun f => ?_, by show qtop M + 1 = _; omega, h2.qnewl.sfr (by omega), tt, h4, fun J hJ hle => ?_⟩
  · rw [xb_ok (x_newl n0 n1 n2), xb_ok (x_sr (f := 512 + K) rfl tt)]
  · have hk0 : (kty K).1 ≠ 0 := by rw [hK]; exact (show (3 : Nat) ≠ 0 by decide)
    by_cases e : J = K
    · subst e
      rw [hr, show mo + (i + 1) = qtop M by omega]
      refine ⟨fr_s, (va_up_same _ _ _).trans hK.symm, fun z => ?_, fun _ n => ?_⟩
      · rw [hK] at z; exact absurd (show (3 : Nat) = 2 from z) (by decide)
      · exact congrFun (va_up_same (qal M) (qtop M) _) n
    · have hne : ra J ≠ i + 1 := fun z => e (ra_inj J (kty_lt hJ) K (kty_lt hk0) hJ hk0 (z.trans hr.symm))
      have := h5 J hJ (by omega)
      exact ⟨(fr_n (by omega)).trans this.1, (va_up_diff _ _ (by omega)).trans this.2.1, this.2.2.1, fun z n => (congrFun (va_up_diff (qal M) _ (by omega)) n).trans (this.2.2.2 z n)⟩
/-- all is nothing, but j places of a row and k of another -/
def S0j (j k : Int) : MS := (fun J y => if (J = 1 ∧ 0 ≤ y ∧ y < j) ∨ (J = 25 ∧ 0 ≤ y ∧ y < k) then -1 else 0, fun _ _ => 0, fun _ => 0)
theorem s0j_1 {j k : Int} (hj : 0 ≤ j) : seta (S0j j k) 1 j (-1) = S0j (j + 1) k := Prod.ext (funext fun J => funext fun y => by
  show (if J = 1 ∧ y = j then -1 else if (J = 1 ∧ 0 ≤ y ∧ y < j) ∨ (J = 25 ∧ 0 ≤ y ∧ y < k) then -1 else 0) = if (J = 1 ∧ 0 ≤ y ∧ y < j + 1) ∨ (J = 25 ∧ 0 ≤ y ∧ y < k) then -1 else (0 : Int)
  split
  · rw [if_pos (by omega)]
  · split
    · rw [if_pos (by omega)]
    · rw [if_neg (by omega)]) rfl
theorem s0j_25 {j k : Int} (hk : 0 ≤ k) : seta (S0j j k) 25 k (-1) = S0j j (k + 1) := Prod.ext (funext fun J => funext fun y => by
  show (if J = 25 ∧ y = k then -1 else if (J = 1 ∧ 0 ≤ y ∧ y < j) ∨ (J = 25 ∧ 0 ≤ y ∧ y < k) then -1 else 0) = if (J = 1 ∧ 0 ≤ y ∧ y < j) ∨ (J = 25 ∧ 0 ≤ y ∧ y < k + 1) then -1 else (0 : Int)
  split
  · rw [if_pos (by omega)]
  · split
    · rw [if_pos (by omega)]
    · rw [if_neg (by omega)]) rfl
theorem c_rinit (hm : mo = qtop m) : ∃ M, F_X7_init mo (qnew m 8) = some (.ok (), M) ∧ RM mo S00 M ∧ GROW m M ∧ qtop M = mo + 42 := by
  subst hm
  have p0 : PR m (qtop m) 0 (qnew m 8) := ⟨rfl, (GROW.refl m).qnew, va_up_same _ _ _, fun f => va_up_same _ _ _, fun K hK hr => by
    have := ra_pos K (kty_lt hK) hK; omega⟩
  obtain ⟨M1, e1, p1⟩ := pr_i (K := 0) (u := 0) (N := 3) (cap := 3) p0 rfl (by decide) (by decide) (by decide) (by decide) (by decide)
  obtain ⟨M2, e2, p2⟩ := pr_i (K := 1) (u := 0) (N := 3) (cap := 3) p1 rfl (by decide) (by decide) (by decide) (by decide) (by decide)
  obtain ⟨M3, e3, p3⟩ := pr_i (K := 2) (u := 0) (N := 3) (cap := 3) p2 rfl (by decide) (by decide) (by decide) (by decide) (by decide)
  obtain ⟨M4, e4, p4⟩ := pr_i (K := 4) (u := 0) (N := 8) (cap := 8) p3 rfl (by decide) (by decide) (by decide) (by decide) (by decide)
  obtain ⟨M5, e5, p5⟩ := pr_i (K := 5) (u := 0) (N := 8) (cap := 8) p4 rfl (by decide) (by decide) (by decide) (by decide) (by decide)
  obtain ⟨M6, e6, p6⟩ := pr_i (K := 6) (u := 0) (N := 8) (cap := 8) p5 rfl (by decide) (by decide) (by decide) (by decide) (by decide)
  obtain ⟨M7, e7, p7⟩ := pr_i (K := 8) (u := 1) (N := 160) (cap := 160) p6 rfl (by decide) (by decide) (by decide) (by decide) (by decide)
  obtain ⟨M8, e8, p8⟩ := pr_i (K := 9) (u := 0) (N := 160) (cap := 160) p7 rfl (by decide) (by decide) (by decide) (by decide) (by decide)
  obtain ⟨M9, e9, p9⟩ := pr_i (K := 10) (u := 0) (N := 160) (cap := 160) p8 rfl (by decide) (by decide) (by decide) (by decide) (by decide)
  obtain ⟨M10, e10, p10⟩ := pr_i (K := 11) (u := 0) (N := 160) (cap := 160) p9 rfl (by decide) (by decide) (by decide) (by decide) (by decide)
  obtain ⟨M11, e11, p11⟩ := pr_i (K := 12) (u := 0) (N := 160) (cap := 160) p10 rfl (by decide) (by decide) (by decide) (by decide) (by decide)
  obtain ⟨M12, e12, p12⟩ := pr_i (K := 13) (u := 0) (N := 160) (cap := 160) p11 rfl (by decide) (by decide) (by decide) (by decide) (by decide)
  obtain ⟨M13, e13, p13⟩ := pr_i (K := 14) (u := 0) (N := 160) (cap := 160) p12 rfl (by decide) (by decide) (by decide) (by decide) (by decide)
  obtain ⟨M14, e14, p14⟩ := pr_i (K := 15) (u := 0) (N := 160) (cap := 160) p13 rfl (by decide) (by decide) (by decide) (by decide) (by decide)
  obtain ⟨M15, e15, p15⟩ := pr_i (K := 16) (u := 0) (N := 160) (cap := 160) p14 rfl (by decide) (by decide) (by decide) (by decide) (by decide)
  obtain ⟨M16, e16, p16⟩ := pr_i (K := 17) (u := 0) (N := 160) (cap := 160) p15 rfl (by decide) (by decide) (by decide) (by decide) (by decide)
  obtain ⟨M17, e17, p17⟩ := pr_i (K := 18) (u := 0) (N := 160) (cap := 160) p16 rfl (by decide) (by decide) (by decide) (by decide) (by decide)
  obtain ⟨M18, e18, p18⟩ := pr_i (K := 19) (u := 1) (N := 160) (cap := 160) p17 rfl (by decide) (by decide) (by decide) (by decide) (by decide)
  obtain ⟨M19, e19, p19⟩ := pr_l (K := 20) (N := 160) (cap := 160) p18 rfl (by decide) (by decide) (by decide) (by decide) (by decide)
  obtain ⟨M20, e20, p20⟩ := pr_l (K := 21) (N := 160) (cap := 160) p19 rfl (by decide) (by decide) (by decide) (by decide) (by decide)
  obtain ⟨M21, e21, p21⟩ := pr_l (K := 22) (N := 160) (cap := 160) p20 rfl (by decide) (by decide) (by decide) (by decide) (by decide)
  obtain ⟨M22, e22, p22⟩ := pr_l (K := 23) (N := 160) (cap := 160) p21 rfl (by decide) (by decide) (by decide) (by decide) (by decide)
  obtain ⟨M23, e23, p23⟩ := pr_i (K := 24) (u := 0) (N := 9600) (cap := 9600) p22 rfl (by decide) (by decide) (by decide) (by decide) (by decide)
  obtain ⟨M24, e24, p24⟩ := pr_i (K := 25) (u := 0) (N := 40) (cap := 40) p23 rfl (by decide) (by decide) (by decide) (by decide) (by decide)
  obtain ⟨M25, e25, p25⟩ := pr_i (K := 26) (u := 0) (N := 40) (cap := 40) p24 rfl (by decide) (by decide) (by decide) (by decide) (by decide)
  obtain ⟨M26, e26, p26⟩ := pr_i (K := 27) (u := 0) (N := 5) (cap := 5) p25 rfl (by decide) (by decide) (by decide) (by decide) (by decide)
  obtain ⟨M27, e27, p27⟩ := pr_i (K := 28) (u := 0) (N := 5) (cap := 5) p26 rfl (by decide) (by decide) (by decide) (by decide) (by decide)
  obtain ⟨M28, e28, p28⟩ := pr_i (K := 31) (u := 0) (N := 150) (cap := 150) p27 rfl (by decide) (by decide) (by decide) (by decide) (by decide)
  obtain ⟨M29, e29, p29⟩ := pr_i (K := 32) (u := 0) (N := 150) (cap := 150) p28 rfl (by decide) (by decide) (by decide) (by decide) (by decide)
  obtain ⟨M30, e30, p30⟩ := pr_i (K := 33) (u := 0) (N := 150) (cap := 150) p29 rfl (by decide) (by decide) (by decide) (by decide) (by decide)
  obtain ⟨M31, e31, p31⟩ := pr_i (K := 34) (u := 0) (N := 150) (cap := 150) p30 rfl (by decide) (by decide) (by decide) (by decide) (by decide)
  obtain ⟨M32, e32, p32⟩ := pr_i (K := 35) (u := 0) (N := 150) (cap := 150) p31 rfl (by decide) (by decide) (by decide) (by decide) (by decide)
  obtain ⟨M33, e33, p33⟩ := pr_i (K := 36) (u := 0) (N := 150) (cap := 150) p32 rfl (by decide) (by decide) (by decide) (by decide) (by decide)
  obtain ⟨M34, e34, p34⟩ := pr_i (K := 37) (u := 0) (N := 150) (cap := 150) p33 rfl (by decide) (by decide) (by decide) (by decide) (by decide)
  obtain ⟨M35, e35, p35⟩ := pr_i (K := 38) (u := 0) (N := 150) (cap := 150) p34 rfl (by decide) (by decide) (by decide) (by decide) (by decide)
  obtain ⟨M36, e36, p36⟩ := pr_i (K := 39) (u := 0) (N := 150) (cap := 150) p35 rfl (by decide) (by decide) (by decide) (by decide) (by decide)
  obtain ⟨M37, e37, p37⟩ := pr_i (K := 40) (u := 0) (N := 150) (cap := 150) p36 rfl (by decide) (by decide) (by decide) (by decide) (by decide)
  obtain ⟨M38, e38, p38⟩ := pr_i (K := 41) (u := 0) (N := 150) (cap := 150) p37 rfl (by decide) (by decide) (by decide) (by decide) (by decide)
  obtain ⟨M39, e39, p39⟩ := pr_i (K := 42) (u := 1) (N := 150) (cap := 150) p38 rfl (by decide) (by decide) (by decide) (by decide) (by decide)
  obtain ⟨M40, e40, p40⟩ := pr_i (K := 43) (u := 1) (N := 150) (cap := 150) p39 rfl (by decide) (by decide) (by decide) (by decide) (by decide)
  obtain ⟨M41, e41, p41⟩ := pr_i (K := 44) (u := 1) (N := 1650) (cap := 1650) p40 rfl (by decide) (by decide) (by decide) (by decide) (by decide)
  obtain ⟨h1, h2, h3, h4, h5⟩ := p41
  have hR : RM (qtop m) (S0j 0 0) M41 := by
    have le : ∀ K, (kty K).1 ≠ 0 → ra K ≤ 41 := fun K hK => by have := ra_pos K (kty_lt hK) hK; omega
    have z : ∀ K (y : Int), ma (S0j 0 0) K y = 0 := fun K y => if_neg (by omega)
    exact ⟨h3, fun K hK => (h5 K hK (le K hK)).1, fun K hK => (h5 K hK (le K hK)).2.1, fun K hK y _ => by rw [z]; exact (h5 K (by omega) (le K (by omega))).2.2.1 hK _, fun K hK y _ => (h5 K (by omega) (le K (by omega))).2.2.2 hK _, fun K => h4 _⟩
  obtain ⟨A1, l1, g1, g2, g3⟩ := xl_inv (c := fun (s125 : Int32) => xp (decide (s125 < I 3))) (b := fun (s125 : Int32) => xb (xgr 8 1 (some (qtop m))) fun v129 => xb (xsai v129 s125 (-1)) fun _ => xp (s125 + I 1)) (fun j => I j) (fun j M => RM (qtop m) (S0j j 0) M ∧ GROW m M ∧ qtop M = qtop m + 42) 3 (fun j M hj hP => by
    obtain ⟨q1, q2, q3⟩ := hP
    have w := q1.seta (K := 1) (z := j) (x := -1) (by decide) (by omega)
    rw [show (-1 : Int32).toInt = -1 by decide, s0j_1 (by omega)] at w
    refine ⟨by rw [xp_ap, d_lt (by omega) (by omega) (by omega) (by omega), decide_eq_true (by omega)], _, ?_, w, q2.sai (by omega), q3⟩
    rw [xb_ok (x_gr rfl q1.ob (q1.rf 1 (by decide))), xb_ok (x_sai (n := 3) (q1.ty 1 (by decide)) (by decide) (by omega) (by omega)), xp_ap, I_add]; rfl) (fun M hP => by rw [xp_ap, d_lt (by omega) (by omega) (by omega) (by omega), decide_eq_false (by omega)]) 2000 0 M41 (by decide) (by decide) ⟨hR, h2, by omega⟩
  obtain ⟨A2, l2, k1, k2, k3⟩ := xl_inv (c := fun (s134 : Int32) => xp (decide (s134 < I 40))) (b := fun (s134 : Int32) => xb (xgr 8 25 (some (qtop m))) fun v138 => xb (xsai v138 s134 (-1)) fun _ => xp (s134 + I 1)) (fun j => I j) (fun j M => RM (qtop m) (S0j 3 j) M ∧ GROW m M ∧ qtop M = qtop m + 42) 40 (fun j M hj hP => by
    obtain ⟨q1, q2, q3⟩ := hP
    have w := q1.seta (K := 25) (z := j) (x := -1) (by decide) (by omega)
    rw [show (-1 : Int32).toInt = -1 by decide, s0j_25 (by omega)] at w
    refine ⟨by rw [xp_ap, d_lt (by omega) (by omega) (by omega) (by omega), decide_eq_true (by omega)], _, ?_, w, q2.sai (by omega), q3⟩
    rw [xb_ok (x_gr rfl q1.ob (q1.rf 25 (by decide))), xb_ok (x_sai (n := 40) (q1.ty 25 (by decide)) (by decide) (by omega) (by omega)), xp_ap, I_add]; rfl) (fun M hP => by rw [xp_ap, d_lt (by omega) (by omega) (by omega) (by omega), decide_eq_false (by omega)]) 2000 0 A1 (by decide) (by decide) ⟨g1, g2, g3⟩
  refine ⟨A2, ?_, k1, k2, k3⟩
  unfold F_X7_init
  simp only [xb_xp, xb_as]

  refine Eq.trans (e1 _) ?_
  refine Eq.trans (e2 _) ?_
  refine Eq.trans (e3 _) ?_
  refine Eq.trans (e4 _) ?_
  refine Eq.trans (e5 _) ?_
  refine Eq.trans (e6 _) ?_
  refine Eq.trans (e7 _) ?_
  refine Eq.trans (e8 _) ?_
  refine Eq.trans (e9 _) ?_
  refine Eq.trans (e10 _) ?_
  refine Eq.trans (e11 _) ?_
  refine Eq.trans (e12 _) ?_
  refine Eq.trans (e13 _) ?_
  refine Eq.trans (e14 _) ?_
  refine Eq.trans (e15 _) ?_
  refine Eq.trans (e16 _) ?_
  refine Eq.trans (e17 _) ?_
  refine Eq.trans (e18 _) ?_
  refine Eq.trans (e19 _) ?_
  refine Eq.trans (e20 _) ?_
  refine Eq.trans (e21 _) ?_
  refine Eq.trans (e22 _) ?_
  refine Eq.trans (e23 _) ?_
  refine Eq.trans (e24 _) ?_
  refine Eq.trans (e25 _) ?_
  refine Eq.trans (e26 _) ?_
  refine Eq.trans (e27 _) ?_
  refine Eq.trans (e28 _) ?_
  refine Eq.trans (e29 _) ?_
  refine Eq.trans (e30 _) ?_
  refine Eq.trans (e31 _) ?_
  refine Eq.trans (e32 _) ?_
  refine Eq.trans (e33 _) ?_
  refine Eq.trans (e34 _) ?_
  refine Eq.trans (e35 _) ?_
  refine Eq.trans (e36 _) ?_
  refine Eq.trans (e37 _) ?_
  refine Eq.trans (e38 _) ?_
  refine Eq.trans (e39 _) ?_
  refine Eq.trans (e40 _) ?_
  refine Eq.trans (e41 _) ?_
  refine Eq.trans (xb_ok l1) ?_
  refine Eq.trans (xb_ok l2) ?_
  rfl
end C46
