section C36
variable {sv : Nat} {G G' : GM} {S S1 X : MS} {m m' M W : QM} {t : Int} {p i d w o k x r : Int} {T a b : Nat} {R : Nat → Nat → Option Nat}
theorem c_takeCopy (h : CR sv G S m) (hs : SI t S) (ht : t + 2 ≤ 600) (h0 : 0 ≤ k) (h1 : k < mf S 29) (hk : ma S 31 k = 0) : ∃ G' m', F_X6_takeCopy sv (some (ag G k)) m = some (.ok (b2i (becB S k)), m') ∧ CR sv G' (sBec S k) m' ∧ KP sv m m' := by
  have hn := hs.wr.nn
  have hg := h.mg k h0 h1
  have hx := hs.wr.ms h0 h1
  have hi : 0 ≤ ma S 34 k ∧ ma S 34 k < mf S 3 := hx.2.2.2.1
  have hr : 0 ≤ ma S 33 k ∧ ma S 33 k < 5 := hx.2.2.1
  have hm := h.mt (ma S 34 k) hi.1 hi.2
  have no := hs.no.2.2 k h0 h1 hk
  have nv := hs.nv.2.2.1 k h0 h1 hk
  have hcp := hs.wr.cp (p := ma S 33 k) (i := ma S 34 k) hr.1 hr.2 hi.1 (by omega)
  have ev : vO G S (ma S 33 k) (ma S 34 k) = if ma S 25 (8 * ma S 33 k + ma S 34 k) = -1 then none else some (ac G (8 * ma S 33 k + ma S 34 k)) := if_neg (fun q => no q.symm)
  have hvs := hg.vs hk
  have cond : xb (xp (vO G S (ma S 33 k) (ma S 34 k))) (fun c => if decide (¬ c = none) = true then xb (xgi 5 0 c) fun v9 => xb (xgr 2 4 (some (ag G k))) fun v => xb (xgi 5 0 v) fun v12 => xp (decide (v12 ≤ v9)) else xp false) m = some (.ok (!becB S k), m) := by
    rw [xb_xp, ev]
    unfold becB
    by_cases e : ma S 25 (8 * ma S 33 k + ma S 34 k) = -1
    · rw [if_pos e, decide_eq_true e, if_neg (by decide)]; rfl
    · have hcs := hm.cs (ma S 33 k) hr.1 hr.2 e
      have hv9 := hs.wr.vs (v := ma S 25 (8 * ma S 33 k + ma S 34 k)) (by omega) (by omega)
      have f9 : qfi m 320 (ac G (8 * ma S 33 k + ma S 34 k)) = I (ma S 9 (ma S 25 (8 * ma S 33 k + ma S 34 k))) := hcs.2.f0
      rw [if_neg e, decide_eq_false e, if_pos (by simp), xb_ok (x_gi rfl hcs.2.ty f9), yg4 hg, ygv hg, xp_ap, d_le (by omega) (by omega) (by omega) (by omega)]
      by_cases c : ma S 9 (ma S 25 (8 * ma S 33 k + ma S 34 k)) < ma S 36 k
      · rw [decide_eq_true c, decide_eq_false (by omega)]; rfl
      · rw [decide_eq_false c, decide_eq_true (by omega)]; rfl
  unfold F_X6_takeCopy
  simp only [xb_xp, xb_as] at cond ⊢
  rw [yg1 hg, yg3 hg, om_b hm, xb_ok (c_versionOf h hs.wr hr.1 hr.2 hi.1 hi.2), xb_ok cond]
  unfold sBec
  by_cases g : becB S k = true
  · have hC := h.bec (r := ma S 33 k) (i := ma S 34 k) hs.wr hr.1 hr.2 hi.1 hi.2 hvs (by omega)
    have hw1 := wr_bec1 hs.wr h0 h1
    have hl1 : LO (sBec1 S k) := fun j x y => by
      unfold sBec1
      rw [seta_ne (show 18 ≠ 25 by decide), seta_ne (show 5 ≠ 25 by decide), seta_ne (show 4 ≠ 25 by decide)]
      exact hs.lo j x y
    have hC1 : CR sv (gcp G (8 * ma S 33 k + ma S 34 k) (Jvm.Pilot.CMeetingServerLaw_law_r1901_9528e9.av G k)) (sBec1 S k) (sar m (am G (ma S 34 k) + 5) (ma S 33 k).toNat (some (Jvm.Pilot.CMeetingServerLaw_law_r1901_9528e9.av G k))) := hC
    obtain ⟨m', e1, e2, e3⟩ := c_markEntry (p := ma S 33 k) (i := ma S 34 k) hC1 hw1 (by omega) hl1 hr.1 hr.2 hi.1 hi.2
    have e1 : F_X6_markEntry sv (I (ma S 33 k)) (some (am G (ma S 34 k))) (sar m (am G (ma S 34 k) + 5) (ma S 33 k).toNat (some (Jvm.Pilot.CMeetingServerLaw_law_r1901_9528e9.av G k))) = some (.ok (), m') := e1
    refine ⟨_, m', ?_, by rw [if_pos g]; exact e2, KP.trans (⟨Nat.le_refl _, fun b x y => ⟨rfl, fun _ => rfl, fun _ => rfl, rfl, rfl⟩⟩ : KP sv m (sar m (am G (ma S 34 k) + 5) (ma S 33 k).toNat (some (Jvm.Pilot.CMeetingServerLaw_law_r1901_9528e9.av G k)))) e3.kp⟩
    have g2 : xgi 2 3 (some (ag G k)) (sar m (am G (ma S 34 k) + 5) (ma S 33 k).toNat (some (Jvm.Pilot.CMeetingServerLaw_law_r1901_9528e9.av G k))) = some (.ok (I (ma S 33 k)), sar m (am G (ma S 34 k) + 5) (ma S 33 k).toNat (some (Jvm.Pilot.CMeetingServerLaw_law_r1901_9528e9.av G k))) := x_gi rfl hg.ty hg.f3
    rw [g, show (!true) = false from rfl, if_neg (by decide)]
    rw [xb_ok (x_gr rfl hm.ty hm.f3), yg3 hg, yg4 hg, xb_ok (x_sar hm.t5 (by decide) hr.1 (by omega) hg.vty), xb_ok g2, os_b hC1.cf, xb_ok e1]; rfl
  · rw [Bool.eq_false_iff.mpr g, show (!false) = true from rfl, if_pos rfl, if_neg (by decide)]
    exact ⟨G, m, rfl, h, KP.refl _ _⟩
theorem c_keepReply (h : CR sv G S m) (hs : SI t S) (ht : t + 2 ≤ 600) (h0 : 0 ≤ k) (h1 : k < mf S 29) (hk : ma S 31 k = 1) : ∃ m', F_X6_keepReply sv (some (ag G k)) (sfi m 138 (ag G k) (I 1)) = some (.ok (b2i (dlvB S k)), m') ∧ CR sv G (sDlv S k) m' ∧ KP sv m m' := by
  have hn := hs.wr.nn
  have hg := h.mg k h0 h1
  have hx := hs.wr.ms h0 h1
  have hi : 0 ≤ ma S 34 k ∧ ma S 34 k < mf S 3 := hx.2.2.2.1
  have hp : 0 ≤ ma S 32 k ∧ ma S 32 k < 5 := hx.2.1
  have hd : -1 ≤ ma S 37 k ∧ ma S 37 k < 60 := hx.2.2.2.2.2.2.1
  have hm := h.mt (ma S 34 k) hi.1 hi.2
  have hw1 : WR t (seta S 42 k 1) := wr_set42 hs.wr
  have hf : RN S (kept S (ma S 34 k) (ma S 32 k) (ma S 37 k)) := isB_RN (kept_is hs.wr hs.rp _ _ _) (fun y hy => (cK_r hy).1)
  have hf1 : RN (seta S 42 k 1) (kept S (ma S 34 k) (ma S 32 k) (ma S 37 k)) := by
    rcases hf with e | ⟨a1, a2, a3⟩
    · exact Or.inl e
    · exact Or.inr ⟨a1, a2, by rw [n42 (by decide)]; exact a3⟩
  generalize hRe : (if later S k (kept S (ma S 34 k) (ma S 32 k) (ma S 37 k)) = true then va_up (qar m) (am G (ma S 34 k) + 7) (va_up (qar m (am G (ma S 34 k) + 7)) (61 * ma S 32 k + ma S 37 k + 1).toNat (some (ag G k))) else qar m) = R
  have r1 : ∀ b, b ≠ am G (ma S 34 k) + 7 → R b = qar m b := fun b q => by
    rw [← hRe]
    split
    · exact va_up_diff _ _ q
    · rfl
  have r2 : ∀ j, R (am G (ma S 34 k) + 7) j = if later S k (kept S (ma S 34 k) (ma S 32 k) (ma S 37 k)) = true ∧ j = (61 * ma S 32 k + ma S 37 k + 1).toNat then some (ag G k) else qar m (am G (ma S 34 k) + 7) j := fun j => by
    rw [← hRe]
    by_cases g : later S k (kept S (ma S 34 k) (ma S 32 k) (ma S 37 k)) = true
    · rw [if_pos g, va_up_same]
      by_cases q : j = (61 * ma S 32 k + ma S 37 k + 1).toNat
      · subst q; rw [va_up_same, if_pos ⟨g, rfl⟩]
      · rw [va_up_diff _ _ q, if_neg (fun z => q z.2)]
    · rw [if_neg g, if_neg (fun z => g z.1)]
  have hC := h.set42 (R := R) h0 h1 (fun b q => r1 b (q _ hi.1 hi.2)) (fun j q e u v w x y z => by
    have hj := h.mt j u v
    by_cases c : ma S 34 k = j ∧ ma S 32 k = q ∧ ma S 37 k = e
    · obtain ⟨c1, c2, c3⟩ := c
      subst c1 c2 c3
      rw [r2, kept_s42 hs h0 h1 hk]
      by_cases g : later S k (kept S (ma S 34 k) (ma S 32 k) (ma S 37 k)) = true
      · rw [if_pos ⟨g, rfl⟩, if_pos g]
        exact (if_neg (by omega)).symm
      · rw [if_neg (fun z => g z.1), if_neg g]
        exact hj.kn _ _ w x y z
    · rw [kept_o42 (fun z => c ⟨z.2.1, z.2.2.1, z.2.2.2⟩)]
      refine Eq.trans ?_ (hj.kn q e w x y z)
      by_cases s : j = ma S 34 k
      · subst s
        rw [r2, if_neg (fun z2 => c ⟨rfl, by omega, by omega⟩)]
      · exact congrFun (r1 _ (fun z2 => s (h.apart hi.1 hi.2 u v z2 (by decide) (by decide)).1)) _)
  have im : IMM sv m (sfi m 138 (ag G k) (I 1)) := (IMM.refl sv m).wfi (Or.inl (by decide))
  have mg1 : ∀ f, 0 ≤ f → f < mf (seta S 42 k 1) 29 → MG sv G (seta S 42 k 1) (sfi m 138 (ag G k) (I 1)) f := fun f x y => (hC.mg f x y).fr ⟨Nat.le_refl _, fun _ _ _ => rfl, fun _ _ _ _ _ => rfl, fun _ _ _ _ _ => rfl, fun _ _ _ _ _ => rfl, fun _ _ _ => rfl⟩ rfl (fun _ _ => ⟨rfl, rfl⟩) (congrFun (r1 _ (by have := hm.lo; omega)).symm _) rfl rfl rfl (fun _ _ _ => rfl) (fun _ => SV.refl _ _)
  have y5 : qfi (sfi m 138 (ag G k) (I 1)) 133 (ag G k) = I (ma S 37 k) := (fi_n (by decide)).trans hg.f5
  have y2 : qfi (sfi m 138 (ag G k) (I 1)) 130 (ag G k) = I (ma S 32 k) := (fi_n (by decide)).trans hg.f2
  have y9 : qfi (sfi m 138 (ag G k) (I 1)) 137 (ag G k) = I (ma S 39 k) := (fi_n (by decide)).trans (hg.f9 hk)
  have yv : qfi (sfi m 138 (ag G k) (I 1)) 320 (Jvm.Pilot.CMeetingServerLaw_law_r1901_9528e9.av G k) = I (ma S 36 k) := (fi_n (by decide)).trans hg.v0
  have hn1 := c_newerT (M := sfi m 138 (ag G k) (I 1)) (f := kept S (ma S 34 k) (ma S 32 k) (ma S 37 k)) (s := ma S 36 k) (st := ma S 39 k) hg.ty hg.f4 y9 hg.vty yv mg1 hw1 hf1 (by omega) (by omega) (by omega) (by omega)
  have eg : (decide (kept S (ma S 34 k) (ma S 32 k) (ma S 37 k) = -1) || decide (ma (seta S 42 k 1) 36 (kept S (ma S 34 k) (ma S 32 k) (ma S 37 k)) < ma S 36 k) || (decide (ma S 36 k = ma (seta S 42 k 1) 36 (kept S (ma S 34 k) (ma S 32 k) (ma S 37 k))) && decide (ma (seta S 42 k 1) 39 (kept S (ma S 34 k) (ma S 32 k) (ma S 37 k)) < ma S 39 k))) = later S k (kept S (ma S 34 k) (ma S 32 k) (ma S 37 k)) := by
    rw [n42 (by decide), n42 (by decide)]; rfl
  rw [eg] at hn1
  have hkp := c_keepT (b := am G (ma S 34 k) + 6) (T := ag G k) (p := ma S 32 k) (d := ma S 37 k) (m := sfi m 138 (ag G k) (I 1)) hm.t6 hm.r6 hm.t7 hg.ty y2 y5 hp.1 hp.2 hd.1 hd.2 (hm.kn _ _ hp.1 hp.2 hd.1 hd.2) hn1
  rw [sar_R] at hkp
  have hRe' : (if later S k (kept S (ma S 34 k) (ma S 32 k) (ma S 37 k)) = true then va_up (qar (sfi m 138 (ag G k) (I 1))) (am G (ma S 34 k) + 6 + 1) (va_up (qar (sfi m 138 (ag G k) (I 1)) (am G (ma S 34 k) + 6 + 1)) (61 * ma S 32 k + ma S 37 k + 1).toNat (some (ag G k))) else qar (sfi m 138 (ag G k) (I 1))) = R := hRe
  rw [hRe'] at hkp
  have kp0 : KP sv m (setR (sfi m 138 (ag G k) (I 1)) R) := ((KP.refl sv m).wfi (Or.inr hg.lo)).wR
  rw [dlv_b hs h0 h1 hk]
  have tM : qty (setR (sfi m 138 (ag G k) (I 1)) R) (ag G k) = (1, 2, 0) := hg.ty
  have f1M : qfr (setR (sfi m 138 (ag G k) (I 1)) R) 129 (ag G k) = some (am G (ma S 34 k)) := hg.f1
  have f3M : qfi (setR (sfi m 138 (ag G k) (I 1)) R) 131 (ag G k) = I (ma S 33 k) := (show qfi (sfi m 138 (ag G k) (I 1)) 131 (ag G k) = I (ma S 33 k) from (fi_n (by decide)).trans hg.f3)
  have f1m : qfr (sfi m 138 (ag G k) (I 1)) 129 (ag G k) = some (am G (ma S 34 k)) := hg.f1
  have f5m : qfr (sfi m 138 (ag G k) (I 1)) 69 (am G (ma S 34 k)) = some (am G (ma S 34 k) + 6) := hm.f5
  unfold F_X6_keepReply sDlv
  simp only [xb_xp, xb_as]
  rw [dlv_b hs h0 h1 hk, decide_eq_true hk, Bool.and_true]
  rw [xb_ok (x_gr rfl (show qty (sfi m 138 (ag G k) (I 1)) (ag G k) = (1, 2, 0) from hg.ty) f1m), xb_ok (x_gr rfl (show qty (sfi m 138 (ag G k) (I 1)) (am G (ma S 34 k)) = (1, 1, 0) from hm.ty) f5m), xb_xo (show qty (sfi m 138 (ag G k) (I 1)) (am G (ma S 34 k) + 6) = (1, 4, 0) from hm.t6), xb_ok hkp, b2ne]
  have hl1 : LO (seta S 42 k 1) := fun j x y => by
    rw [seta_ne (show 18 ≠ 42 by decide), seta_ne (show 5 ≠ 42 by decide), seta_ne (show 4 ≠ 42 by decide)]
    exact hs.lo j x y
  by_cases g : later S k (kept S (ma S 34 k) (ma S 32 k) (ma S 37 k)) = true
  · obtain ⟨m', e1, e2, e3⟩ := c_markEntry (p := ma S 33 k) (i := ma S 34 k) hC hw1 (by omega) hl1 hx.2.2.1.1 hx.2.2.1.2 hi.1 hi.2
    refine ⟨m', ?_, by rw [if_pos g]; exact e2, kp0.trans e3.kp⟩
    rw [g, if_pos rfl]
    simp only [xb_xp, xb_as]
    rw [xb_ok (x_gi rfl tM f3M), xb_ok (x_gr rfl tM f1M), os_b hC.cf, xb_ok e1, xz_ok]
  · refine ⟨setR (sfi m 138 (ag G k) (I 1)) R, ?_, by rw [if_neg g]; exact hC, kp0⟩
    rw [Bool.eq_false_iff.mpr g, if_neg (by decide), xb_xp, xz_ok]
theorem q_deliver (h : CR sv G S m) (hs : SI t S) (ht : t + 2 ≤ 600) (kl : -2147483648 ≤ k) (kh : k < 2147483648) : OUTR sv (F_X6_deliver sv (I k)) m (gK S k) true true (b2i (ansDlv S k)) (stDlv S k) S := by
  by_cases g1 : gK S k = true
  · have q := gK_d g1
    have hg := h.mg k q.1 q.2
    have hx := hs.wr.ms q.1 q.2
    have st : xsz 2 10 (some (ag G k)) (I 1) m = some (.ok (), sfi m 138 (ag G k) (I 1)) := x_sz (f := 138) rfl hg.ty (Or.inr (by decide))
    have y0 : xgi 2 0 (some (ag G k)) (sfi m 138 (ag G k) (I 1)) = some (.ok (I (ma S 31 k)), sfi m 138 (ag G k) (I 1)) := x_gi rfl hg.ty ((fi_n (by decide)).trans hg.f0)
    have cs : sfi m 138 (ag G k) (I 1) = sfi m 138 (ag G k) (I 1) := rfl
    have kp1 : KP sv m (sfi m 138 (ag G k) (I 1)) := (KP.refl sv m).wfi (Or.inr hg.lo)
    by_cases k0 : ma S 31 k = 0
    · obtain ⟨G', m', e1, e2, e3⟩ := c_takeCopy (h.d0 (y := I 1) q.1 q.2 k0) hs ht q.1 q.2 k0
      refine OUTR.ok g1 rfl rfl ⟨G', m', ?_, by unfold stDlv; rw [if_pos k0]; exact e2, kp1.trans e3⟩
      unfold F_X6_deliver ansDlv
      simp only [xb_xp, xb_as]
      rw [os_b h.cf, xb_need (c_messageNumbered h hs.wr kl kh), if_pos g1, xb_ok (x_gi (f := 138) rfl hg.ty rfl), gl1, xb_ok st, xb_ok y0, k0, if_pos (by decide), if_pos rfl, os_b (h.d0 (y := I 1) q.1 q.2 k0).cf, xb_ok e1, xz_ok]
    · by_cases k1 : ma S 31 k = 1
      · obtain ⟨m', e1, e2, e3⟩ := c_keepReply h hs ht q.1 q.2 k1
        refine OUTR.ok g1 rfl rfl ⟨G, m', ?_, by unfold stDlv; rw [if_neg k0]; exact e2, e3⟩
        unfold F_X6_deliver ansDlv
        simp only [xb_xp, xb_as]
        rw [os_b h.cf, xb_need (c_messageNumbered h hs.wr kl kh), if_pos g1, xb_ok (x_gi (f := 138) rfl hg.ty rfl), gl1, xb_ok st, xb_ok y0, k1, if_neg (by decide), if_pos (by decide), if_neg (by decide), xb_xo (show qty (sfi m 138 (ag G k) (I 1)) sv = (1, 7, 0) from h.cf.ty), xb_ok e1, xz_ok]
      · have k2 : ma S 31 k = 2 := by omega
        have kc : ∀ i p d, kept (seta S 42 k 1) i p d = kept S i p d := fun i p d => kept_o42 (fun z => k1 z.1)
        have hC := h.set42 (R := qar m) q.1 q.2 (fun _ _ => rfl) (fun i p d u v w x y z => by rw [kc]; exact (h.mt i u v).kn p d w x y z)
        have e2 : sDlv S k = seta S 42 k 1 := by
          unfold sDlv
          rw [decide_eq_false k1, Bool.and_false, if_neg (by decide)]
        refine OUTR.ok g1 rfl rfl ⟨G, sfi m 138 (ag G k) (I 1), ?_, by unfold stDlv; rw [if_neg k0, e2]; exact hC, kp1⟩
        have ea : dlvB S k = !decide (¬ ma S 42 k = 0) := by
          unfold dlvB
          rw [decide_eq_true k2, Bool.true_or, Bool.and_true]
        unfold F_X6_deliver ansDlv
        simp only [xb_xp, xb_as]
        rw [os_b h.cf, xb_need (c_messageNumbered h hs.wr kl kh), if_pos g1, xb_ok (x_gi (f := 138) rfl hg.ty (hg.f10 k0)), gl1, xb_ok st, xb_ok y0, k2, if_neg (by decide), if_neg (by decide), if_neg (by decide), ea]
        have e42 : decide (¬ I (ma S 42 k) = 0) = decide (¬ ma S 42 k = 0) := by
          rcases hx.2.2.2.2.2.2.2.2.2.2.2.1 with z | z <;> rw [z] <;> decide
        rw [e42, xz_ok]
  · refine OUTR.e1 h g1 ?_
    unfold F_X6_deliver
    simp only [xb_xp, xb_as]
    rw [os_b h.cf, xb_need (c_messageNumbered h hs.wr kl kh), if_neg g1]
end C36
