def mk0 (S : MS) (p z d c l : Int) : MS := seta (setl (mkS S p z d c l) 23 (mf S 7) (dts (mkS S p z d c l) (mf S 7))) 5 (mf S 3) (mf S 7)
def gmk (G : GM) (i : Int) (T a' : Nat) : GM := (fun j => if j = i then T else am G j, fun j => if j = i then a' else an G j, ac G, ag G, av G)
section C24
variable {sv : Nat} {G : GM} {S : MS} {m M X : QM} {t : Int} {z d c l p : Int} {T B a' : Nat} {n o : Int32}
theorem make_mk0 : sMake S p z d c l = sMarks (mk0 S p z d c l) p (mf S 3) := by
  have e : ma (mkS S p z d c l) 4 (mf S 3) = p := by simp [mkS, ma_setf, ml_setf, mf_setf, ma_seta, ml_seta, mf_seta, ma_setl, ml_setl, mf_setl]
  show sMarks (mk0 S p z d c l) (ma (mkS S p z d c l) 4 (mf S 3)) (mf S 3) = _
  rw [e]
theorem mk_a {J : Nat} {y : Int} (h4 : J ≠ 4) (h5 : J ≠ 5) (h : (J < 10 ∨ 16 < J) ∨ y ≠ mf S 7) : ma (mk0 S p z d c l) J y = ma S J y := by
  unfold mk0 mkS
  simp only [ma_setf, ml_setf, mf_setf, ma_seta, ml_seta, mf_seta, ma_setl, ml_setl, mf_setl]
  rw [if_neg (by omega), if_neg (by omega), if_neg (by omega), if_neg (by omega), if_neg (by omega), if_neg (by omega), if_neg (by omega), if_neg (by omega), if_neg (by omega)]
theorem mk_4 {y : Int} : ma (mk0 S p z d c l) 4 y = if y = mf S 3 then p else ma S 4 y := by
  unfold mk0 mkS
  simp [ ma_setf, ml_setf, mf_setf, ma_seta, ml_seta, mf_seta, ma_setl, ml_setl, mf_setl]
theorem mk_5 {y : Int} : ma (mk0 S p z d c l) 5 y = if y = mf S 3 then mf S 7 else ma S 5 y := by
  unfold mk0 mkS
  simp [ ma_setf, ml_setf, mf_setf, ma_seta, ml_seta, mf_seta, ma_setl, ml_setl, mf_setl]
theorem mk_l {J : Nat} {y : Int} (h : J ≠ 23 ∨ y ≠ mf S 7) : ml (mk0 S p z d c l) J y = ml S J y := by
  unfold mk0 mkS
  simp only [ma_setf, ml_setf, mf_setf, ma_seta, ml_seta, mf_seta, ma_setl, ml_setl, mf_setl]
  rw [if_neg (by omega)]
theorem mk_f {J : Nat} (h3 : J ≠ 3) (h7 : J ≠ 7) : mf (mk0 S p z d c l) J = mf S J := by
  unfold mk0 mkS
  simp only [ma_setf, ml_setf, mf_setf, ma_seta, ml_seta, mf_seta, ma_setl, ml_setl, mf_setl]
  rw [if_neg h7, if_neg h3]
theorem mk_f3 : mf (mk0 S p z d c l) 3 = mf S 3 + 1 := rfl
theorem mk_f7 : mf (mk0 S p z d c l) 7 = mf S 7 + 1 := rfl
theorem mk_sv {u : Int} (h : u ≠ mf S 7) : SV (mk0 S p z d c l) S u := ⟨fun J a b => mk_a (by omega) (by omega) (Or.inr h), fun J a b => mk_l (Or.inr h), fun e a b => mk_a (by decide) (by decide) (Or.inl (Or.inr (by decide)))⟩
theorem mk_em : EM (mk0 S p z d c l) S := ⟨fun J a b => funext fun y => mk_a (by omega) (by omega) (Or.inl (Or.inr (by omega))), mk_f (by decide) (by decide)⟩
theorem mk_own (hf : FRV S) (h7 : mf S 7 < 158) : (∀ J, 9 ≤ J → J ≤ 19 → ma (mk0 S p z d c l) J (mf S 7) = ri0 z d c l J) ∧ (∀ J, 20 ≤ J → J ≤ 22 → ml (mk0 S p z d c l) J (mf S 7) = 0) ∧ ml (mk0 S p z d c l) 23 (mf S 7) = datR (ri0 z d c l) (fun _ => 0) ∧ ∀ e, 0 ≤ e → e < 60 → ma (mk0 S p z d c l) 24 (60 * mf S 7 + e) = 0 := by
  obtain ⟨hv, hl, hd⟩ := hf.1 (mf S 7) (Int.le_refl _) (by omega)
  have k : ∀ J, 20 ≤ J → J ≤ 22 → ml S J (mf S 7) = 0 := fun J a b => by
    rcases j3 a b with e | e | e <;> subst e
    · exact hl.1
    · exact hl.2.1
    · exact hl.2.2
  refine ⟨fun J a b => ?_, fun J a b => (mk_l (Or.inl (by omega))).trans (k J a b), ?_, fun e a b => (mk_a (by decide) (by decide) (Or.inl (Or.inr (by decide)))).trans (hd e a b)⟩
  · have : J = 9 ∨ J = 10 ∨ J = 11 ∨ J = 12 ∨ J = 13 ∨ J = 14 ∨ J = 15 ∨ J = 16 ∨ J = 17 ∨ J = 18 ∨ J = 19 := by omega
    rcases this with e | e | e | e | e | e | e | e | e | e | e <;> subst e <;> simp [mk0, mkS, ri0, ma_setf, ml_setf, mf_setf, ma_seta, ml_seta, mf_seta, ma_setl, ml_setl, mf_setl, hv]
  · have e : ml (mk0 S p z d c l) 23 (mf S 7) = dts (mkS S p z d c l) (mf S 7) := by simp [mk0, ma_setf, ml_setf, mf_setf, ma_seta, ml_seta, mf_seta, ma_setl, ml_setl, mf_setl]
    rw [e, dts_R]
    refine datR_cg ?_ ?_ ?_ ?_ hl.1 hl.2.1
    all_goals simp [mkS, ri0, ma_setf, ml_setf, mf_setf, ma_seta, ml_seta, mf_seta, ma_setl, ml_setl, mf_setl]
theorem hb00 {p : Int} (h0 : 0 ≤ p) (h1 : p < 5) : hb 0 p = false := by
  obtain ⟨a, rfl⟩ := Int.eq_ofNat_of_zero_le h0
  exact (by decide +kernel : ∀ a, a < 5 → hb 0 (a : Nat) = false) a (by omega)
theorem no_msg (hw : WR t S) (e d : Int) : kept S (mf S 3) e d = -1 ∧ ownb S (mf S 3) e d = -1 := by
  have hn := hw.nn
  constructor
  · rcases bestTo_r S (cK S (mf S 3) e d) (mf S 29).toNat with q | ⟨q1, q2, q3⟩
    · exact q
    · generalize bestTo S (cK S (mf S 3) e d) (mf S 29).toNat = k at q1 q2 q3
      have := hw.ms q1 (by omega)
      unfold cK at q3
      simp only [Bool.and_eq_true, decide_eq_true_eq] at q3
      omega
  · rcases bestTo_r S (cO S (mf S 3) e d) (mf S 29).toNat with q | ⟨q1, q2, q3⟩
    · exact q
    · generalize bestTo S (cO S (mf S 3) e d) (mf S 29).toNat = k at q1 q2 q3
      have := hw.ms q1 (by omega)
      unfold cO at q3
      simp only [Bool.and_eq_true, decide_eq_true_eq] at q3
      omega
theorem CR.mk (h : CR sv G S M) (hs : SI t S) (h3 : mf S 3 < 8) (h7 : mf S 7 < 158) (hT : sv + 23 ≤ T) (hl : ∀ i, 0 ≤ i → i < mf S 3 → am G i + 10 ≤ T) (hg : ∀ k, 0 ≤ k → k < mf S 29 → ag G k < T) (hm : MO M T (T + 5) (I (mf S 3)) (I p) a')
    (hv : VR sv M a' (ri0 z d c l) (updl (fun _ => 0) 23 (datR (ri0 z d c l) fun _ => 0)) (fun _ => 0)) : CR sv (gmk G (mf S 3) T a') (mk0 S p z d c l) (sfi (sar M (sv + 3) (mf S 3).toNat (some T)) 452 sv (I (mf S 3 + 1))) := by
  have hn := hs.wr.nn
  have cf := h.cf
  have ow := mk_own (p := p) (z := z) (d := d) (c := c) (l := l) hs.fr h7
  have n29 : mf (mk0 S p z d c l) 29 = mf S 29 := mk_f (by decide) (by decide)
  have a_ : ∀ {J : Nat} {y : Int}, J ≠ 4 → J ≠ 5 → (J < 10 ∨ 16 < J) → ma (mk0 S p z d c l) J y = ma S J y := fun u v w => mk_a u v (Or.inl w)
  have ra : ∀ {b : Nat}, b ≠ sv + 3 → qar (sfi (sar M (sv + 3) (mf S 3).toNat (some T)) 452 sv (I (mf S 3 + 1))) b = qar M b := fun q => va_up_diff _ _ q
  have im : IMM sv M (sfi (sar M (sv + 3) (mf S 3).toNat (some T)) 452 sv (I (mf S 3 + 1))) := ⟨Nat.le_refl _, fun _ _ _ => rfl, fun f b x _ _ => fi_n (by omega), fun _ _ _ _ _ => rfl, fun _ _ _ _ _ => rfl, fun _ _ _ => rfl⟩
  refine ⟨⟨cf.ty, cf.f0, cf.f1, cf.f2, cf.f3, cf.f7, cf.f8, cf.t1, cf.t2, cf.t3, cf.t4, cf.t5, cf.t6, fun y x w => by rw [ra (by omega)]; exact cf.zr y x w, cf.zt, fun y x w => by rw [ra (by omega)]; exact cf.pr y x w, cf.pt, cf.pf, cf.pe, cf.top⟩,
    fi_s, by rw [n29]; exact (fi_n (by decide)).trans h.f5, by rw [mk_f (by decide) (by decide)]; exact (fi_n (by decide)).trans h.f6,
    fun y x w => by rw [a_ (by decide) (by decide) (by decide)]; exact (fi_n (by decide)).trans (h.z0 y x w), fun y x w => by rw [a_ (by decide) (by decide) (by decide)]; exact (fi_n (by decide)).trans (h.z1 y x w), fun y x w v => by
      rw [a_ (by decide) (by decide) (by decide)] at v ⊢; exact (fi_n (by decide)).trans (h.z2 y x w v),
    fun q x w => by rw [a_ (by decide) (by decide) (by decide)]; exact (fi_n (by decide)).trans (h.p0 q x w), fun q x w => by rw [a_ (by decide) (by decide) (by decide)]; exact (fi_n (by decide)).trans (h.p1 q x w), fun q j x w u v => by rw [a_ (by decide) (by decide) (by decide)]; exact h.pe q j x w u v, fun j x y => ?_, fun j k x y w => ?_, fun k x y => ?_, fun k j x y w => h.gi k j x y (by rw [n29] at w; exact w)⟩
  · rw [mk_f3] at y
    by_cases e : j = mf S 3
    · subst e
      have e1 : am (gmk G (mf S 3) T a') (mf S 3) = T := if_pos rfl
      have e2 : an (gmk G (mf S 3) T a') (mf S 3) = a' := if_pos rfl
      have hf := (hs.fr.2.1 (mf S 3) (Int.le_refl _) h3)
      have tp := hm.top
      unfold MT
      rw [e1, e2, mk_4, if_pos rfl, mk_5, if_pos rfl, a_ (J := 6) (by decide) (by decide) (by decide), hf.1.2]
      refine ⟨hT, (by show T + 10 ≤ qtop M; omega), ?_, hm.ty, (fi_n (by decide)).trans hm.f0, (fi_n (by decide)).trans hm.f1, hm.f2, hm.f3, (fi_n (by decide)).trans hm.f4, hm.f5, hm.f6, hm.t5, hm.t6, hm.t7, hm.t8, hm.t9, hm.r6, hm.r8, ?_, fun q x w v => ?_, fun q x w v => ?_, fun q e x w v u => ?_, fun q e x w v u => ?_⟩
      · show va_up (qar M) (sv + 3) (va_up (qar M (sv + 3)) (mf S 3).toNat (some T)) (sv + 3) (mf S 3).toNat = some T
        rw [va_up_same, va_up_same]
      · refine (hv.fr im).congr ow.1 (fun J a b => ?_) ow.2.2.2
        by_cases q : J = 23
        · subst q; exact ow.2.2.1
        · exact (ow.2.1 J a (by omega)).trans (if_neg q).symm
      · rw [ra (by omega)]; exact hm.a5 _
      · exact absurd ((a_ (by decide) (by decide) (by decide)).trans (hf.2 q x w).1) v
      · rw [kept_cg mk_em, (no_msg hs.wr q e).1, ra (by omega)]; exact hm.a7 _
      · rw [ownb_cg mk_em, (no_msg hs.wr q e).2, ra (by omega)]; exact hm.a9 _
    · have y' : j < mf S 3 := by omega
      have hj := h.mt j x y'
      have hx := hs.wr.mt x y'
      have e3 : (mf S 3).toNat ≠ j.toNat := by omega
      refine hj.fr im (fun b u v => ⟨rfl, fun f q => ⟨fi_n (by omega), rfl⟩, ra (by have := hj.lo; omega)⟩) ?_ (if_neg e) (if_neg e) (fun _ _ _ => rfl) (by rw [mk_4, if_neg e]) (by rw [mk_5, if_neg e]) (a_ (by decide) (by decide) (by decide)) (fun _ _ _ => a_ (by decide) (by decide) (by decide)) (mk_sv (by omega)) (fun q a b w => ?_) (fun q e _ _ _ _ => by rw [kept_cg mk_em]; rfl) (fun q e _ _ _ _ => by rw [ownb_cg mk_em]; rfl)
      · show va_up (qar M) (sv + 3) (va_up (qar M (sv + 3)) (mf S 3).toNat (some T)) (sv + 3) j.toNat = _
        rw [va_up_same, va_up_diff _ _ (fun q => e3 q.symm)]
      · have := hs.wr.cp a b x (show j < 8 by omega)
        exact mk_sv (by omega)
  · rw [mk_f3] at w
    by_cases e : k = mf S 3
    · subst e
      show (if j = mf S 3 then T else am G j) + 10 ≤ (if mf S 3 = mf S 3 then T else am G (mf S 3))
      rw [if_neg (by omega), if_pos rfl]; exact hl j x y
    · show (if j = mf S 3 then T else am G j) + 10 ≤ (if k = mf S 3 then T else am G k)
      rw [if_neg (by omega), if_neg e]; exact h.mi j k x y (by omega)
  · rw [n29] at y
    have hk := h.mg k x y
    have hx := hs.wr.ms x y
    refine hk.fr im rfl (fun f q => ⟨fi_n (by omega), rfl⟩) (by rw [ra (by omega)]) rfl rfl (if_neg (by omega)) (fun J a b => a_ (by omega) (by omega) (by omega)) (fun w => ?_)
    have := (hs.nv.2.2.1 k x y w).1
    exact mk_sv (by omega)
theorem IMM.wfr {f a : Nat} {x : Option Nat} (h : IMM sv m M) (hf : f < 320) : IMM sv m (sfr M f a x) := h.trans ⟨Nat.le_refl _, fun _ _ _ => rfl, fun _ _ _ _ _ => rfl, fun _ _ _ _ _ => rfl, fun g b u _ _ => fr_n (by omega), fun _ _ _ => rfl⟩
theorem IMM.wfi {f a : Nat} {x : Int32} (h : IMM sv m M) (hf : f < 320 ∨ 384 ≤ f) : IMM sv m (sfi M f a x) := h.trans ⟨Nat.le_refl _, fun _ _ _ => rfl, fun g b u _ _ => fi_n (by omega), fun _ _ _ _ _ => rfl, fun _ _ _ _ _ => rfl, fun _ _ _ => rfl⟩
theorem IMM.wnew {cc : Nat} (h : IMM sv m M) : IMM sv m (qnew M cc) := h.trans ((GROW.refl M).qnew.imm)
theorem IMM.wnewr {cc nn : Nat} (h : IMM sv m M) : IMM sv m (qnewr M cc nn) := h.trans ((GROW.refl M).qnewr.imm)
theorem o5_im : IMM sv X (O5 X T n o a') := by
  unfold O5 O4 O3 O2 O1
  exact IMM.wfr (IMM.wfi (IMM.wfi (IMM.wfr (IMM.wfr (IMM.wnewr (IMM.wnew (IMM.wfr (IMM.wfr (IMM.wnewr (IMM.wnew (IMM.wfr (IMM.wnewr (IMM.refl sv X)) (by decide)))) (by decide)) (by decide)))) (by decide)) (by decide)) (by decide)) (by decide)) (by decide)
theorem wr_mk0 (hs : SI t S) (h3 : mf S 3 < 8) (h7 : mf S 7 < 158) (h0 : 0 ≤ p) (h1 : p < 5) (z0 : 0 ≤ z) (z1 : z < 3) (h4 : 0 ≤ d) (h5 : d < 60) (h6 : 0 ≤ c) (h8 : c < 24) (h9 : 1 ≤ l) (h10 : l ≤ 23) : WR t (mk0 S p z d c l) := by
  have hn := hs.wr.nn
  have hw := wr_mk hs.wr hs.fr h3 h7 h0 h1 z0 z1 h4 h5 h6 h8 h9 h10
  exact wr_now (S := setl (mkS S p z d c l) 23 (mf S 7) (dts (mkS S p z d c l) (mf S 7))) hw (by omega) (show mf S 3 < mf S 3 + 1 by omega) (by omega) (show mf S 7 < mf S 7 + 1 by omega)
theorem lo_mk0 (hs : SI t S) (h7 : mf S 7 < 158) (h0 : 0 ≤ p) (h1 : p < 5) : LO (mk0 S p z d c l) := fun j x y => by
  rw [mk_f3] at y
  rw [mk_5, mk_4]
  by_cases e : j = mf S 3
  · rw [if_pos e, if_pos e, (mk_own hs.fr h7).1 18 (by decide) (by decide)]
    exact hb00 h0 h1
  · have hx := hs.wr.mt x (show j < mf S 3 by omega)
    rw [if_neg e, if_neg e, mk_a (by decide) (by decide) (Or.inr (by omega))]
    exact hs.lo j x (by omega)
theorem SI.nvm (hs : SI t S) (h3 : mf S 3 < 8) : mf S 7 < 158 := by
  have hn := hs.wr.nn
  have hle := surj_le (n := (mf S 7).toNat) (M := (mf S 3).toNat + (mf S 29).toNat) (g := fun j => if j < (mf S 3).toNat then ma S 5 (j : Int) else ma S 35 ((j : Int) - ((mf S 3).toNat : Nat))) (fun v hv => by
    rcases hs.nv.2.2.2.1 v (by omega) (by omega) with ⟨j, j0, j1, j2⟩ | ⟨k, k0, k1, k2⟩
    · refine ⟨j.toNat, by omega, ?_⟩
      rw [if_pos (by omega), show ((j.toNat : Nat) : Int) = j by omega]; exact j2
    · refine ⟨(mf S 3).toNat + k.toNat, by omega, ?_⟩
      rw [if_neg (by omega), show (((mf S 3).toNat + k.toNat : Nat) : Int) - ((mf S 3).toNat : Nat) = k by omega]; exact k2)
  omega
theorem nPZ {β : Type} {f : Unit → Option Nat → QX β} (h : CR sv G S m) (pl : -2147483648 ≤ p) (ph : p < 2147483648) (zl : -2147483648 ≤ z) (zh : z < 2147483648) : xb (F_X6_needPerson (I p)) (fun u => xb (xo 7 (some sv) fun q => F_X6_zoneNumbered q (I z)) (f u)) m = if (gP p && gZ z) = true then f () (some (zA sv z)) m else some (.error 1, m) := by
  rw [xb_need (c_needPerson pl ph)]
  by_cases g : gP p = true
  · rw [if_pos g, os_b h.cf, xb_need (c_zoneNumbered h zl zh), g, Bool.true_and]
  · rw [if_neg g, Bool.eq_false_iff.mpr g]; rfl
theorem q_make (h : CR sv G S m) (hs : SI t S) (ht : t + 2 ≤ 600) (pl : -2147483648 ≤ p) (ph : p < 2147483648) (zl : -2147483648 ≤ z) (zh : z < 2147483648) (dl : -2147483648 ≤ d) (dh : d < 2147483648) (cl : -2147483648 ≤ c) (ch : c < 2147483648) (ll : -2147483648 ≤ l) (lh : l < 2147483648) : OUTR sv (F_X6_make sv (I p) (I z) (I d) (I c) (I l)) m (gP p && gZ z) (gT d c l) (decide (mf S 3 < 8)) (I (mf S 3)) (sMake S p z d c l) S := by
  have hn := hs.wr.nn
  by_cases g1 : (gP p && gZ z) = true
  · have g1' := Bool.and_eq_true_iff.mp g1
    have q1 := gP_d g1'.1
    have qz := gZ_d g1'.2
    by_cases g2 : gT d c l = true
    · have q2 : (0 ≤ d ∧ d ≤ 59) ∧ (0 ≤ c ∧ c ≤ 23) ∧ (1 ≤ l ∧ l ≤ 23) := of_decide_eq_true g2
      by_cases g3 : decide (mf S 3 < 8) = true
      · have q3 := of_decide_eq_true g3
        have q7 := hs.nvm q3
        have ht63 := h.cf.top
        have T1 : qty (qnew m 1) (qtop m) = (1, 1, 0) := va_up_same _ _ _
        have T0 : qfi (qnew m 1) 68 (qtop m) = 0 := va_up_same _ _ _
        have Q1 : qtop (qnew m 1) = qtop m + 1 := rfl
        obtain ⟨e1, mk⟩ := c_vinit (sv := sv) (m := qnew m 1) (z := z) (d := d) (c := c) (l := l) (by omega) q2.1.1 (by omega)
        have qX : qtop (FDM (N3 (qnew m 1) sv z d c l) (qtop (qnew m 1)) (datR (ri0 z d c l) fun _ => 0)) = qtop m + 5 := rfl
        generalize FDM (N3 (qnew m 1) sv z d c l) (qtop (qnew m 1)) (datR (ri0 z d c l) fun _ => 0) = X at e1 mk qX
        obtain ⟨hv, hg, _⟩ := mk
        have tX : qty X (qtop m) = (1, 1, 0) := (hg.ty _ (by omega)).trans T1
        have zX : qfi X 68 (qtop m) = 0 := (hg.fi _ _ (by omega)).trans T0
        have gX : GROW m X := ((GROW.refl m).qnew).trans hg
        have e2 := c_minit (n := I (mf S 3)) (o := I p) (a' := qtop m + 1) (show qtop m < qtop X by omega) tX
        have mo := o5_mo (n := I (mf S 3)) (o := I p) (a' := qtop m + 1) (show qtop m < qtop X by omega) tX zX
        have gO := o5_g (n := I (mf S 3)) (o := I p) (a' := qtop m + 1) (Nat.le_refl (qtop m)) gX
        have iO := o5_im (sv := sv) (X := X) (T := qtop m) (n := I (mf S 3)) (o := I p) (a' := qtop m + 1)
        have qO : qtop X = qtop m + 5 := qX
        rw [qO] at mo
        have hC := CR.mk (h.grow gO) hs q3 q7 h.cf.top (fun i x y => (h.mt i x y).hi) (fun k x y => (h.mg k x y).hi) mo (hv.fr iO)
        have tO := mo.ty
        have nO := mo.f0
        have hCo := h.grow gO
        generalize hM : O5 X (qtop m) (I (mf S 3)) (I p) (qtop m + 1) = M at *
        have hW := wr_mk0 (p := p) (z := z) (d := d) (c := c) (l := l) hs q3 q7 (by omega) (by omega) (by omega) (by omega) (by omega) (by omega) (by omega) (by omega) (by omega) (by omega)
        have hL := lo_mk0 (p := p) (z := z) (d := d) (c := c) (l := l) hs q7 (by omega) (by omega)
        obtain ⟨m', e3, e4, e5⟩ := c_markEntry (p := p) (i := mf S 3) hC hW (by omega) hL (by omega) (by omega) (by omega) (show mf S 3 < mf S 3 + 1 by omega)
        have eT : am (gmk G (mf S 3) (qtop m) (qtop m + 1)) (mf S 3) = qtop m := if_pos rfl
        rw [eT] at e3
        have hM' := e4.mt (mf S 3) (by omega) (by rw [(EP.marks _ _ _).2.2 3 (by decide)]; show mf S 3 < mf S 3 + 1; omega)
        have t' := hM'.ty
        have f' := hM'.f0
        rw [eT] at t' f'
        rw [← make_mk0] at e4
        have kp : KP sv m m' := (gO.kp h.cf.top).trans (KP.trans (⟨Nat.le_refl _, fun b x y => ⟨rfl, fun f => fi_a (by omega), fun f => rfl, rfl, rfl⟩⟩ : KP sv M (sfi (sar M (sv + 3) (mf S 3).toNat (some (qtop m))) 452 sv (I (mf S 3 + 1)))) e5.kp)
        refine OUTR.ok g1 g2 g3 ⟨gmk G (mf S 3) (qtop m) (qtop m + 1), m', ?_, e4, kp⟩
        have c1 : qty (sar M (sv + 3) (mf S 3).toNat (some (qtop m))) sv = (1, 7, 0) := hCo.cf.ty
        have c2 : qfi (sar M (sv + 3) (mf S 3).toNat (some (qtop m))) 452 sv = I (mf S 3) := hCo.f4
        have o1 : xo 5 (some (qtop m + 1)) (fun q => F_X4_init q (some (zA sv z)) (I d) (I c) (I l)) (qnew (qnew m 1) 5) = some (.ok (), X) := (xo_ok (show qty (qnew (qnew m 1) 5) (qtop m + 1) = (1, 5, 0) from va_up_same _ _ _)).trans e1
        have gQ : qfi (qnew m 1) 452 sv = I (mf S 3) := (((GROW.refl m).qnew).fi _ _ (by omega)).trans h.f4
        have tQ : qty (qnew m 1) sv = (1, 7, 0) := (((GROW.refl m).qnew).ty _ (by omega)).trans h.cf.ty
        have n5 : xnew 5 (qnew m 1) = some (.ok (some (qtop m + 1)), qnew (qnew m 1) 5) := rfl
        unfold F_X6_make
        simp only [xb_xp, xb_as]
        rw [nPZ h pl ph zl zh, if_pos g1, xb_need (c_needTime dl dh cl ch ll lh), if_pos g2, ys4 h, show (8 : Int32) = I 8 by decide, d_lt (by omega) (by omega) (by omega) (by omega), xb_need (c_needState _ _), if_pos g3]
        rw [xb_ok (x_new 1 m), xb_ok (x_gi rfl tQ gQ), xb_ok n5, xb_ok o1, xb_xo tX, xb_ok e2, ys2 hCo.cf, xb_ok (x_gi rfl tO nO), xb_ok (x_sar hCo.cf.t3 (by decide) (by omega) (by omega) tO), xb_ok (x_gi rfl c1 c2), gl1, I_add, xb_ok (x_si rfl c1), os_b hC.cf, xb_ok e3, x_gi rfl t' f']
      · refine OUTR.e3 h g1 g2 g3 ?_
        unfold F_X6_make
        simp only [xb_xp, xb_as]
        rw [nPZ h pl ph zl zh, if_pos g1, xb_need (c_needTime dl dh cl ch ll lh), if_pos g2, ys4 h, show (8 : Int32) = I 8 by decide, d_lt (by omega) (by omega) (by omega) (by omega), xb_need (c_needState _ _), if_neg g3]
    · refine OUTR.e2 h g1 g2 ?_
      unfold F_X6_make
      simp only [xb_xp, xb_as]
      rw [nPZ h pl ph zl zh, if_pos g1, xb_need (c_needTime dl dh cl ch ll lh), if_neg g2]
  · refine OUTR.e1 h g1 ?_
    unfold F_X6_make
    simp only [xb_xp, xb_as]
    rw [nPZ h pl ph zl zh, if_neg g1]
end C24
