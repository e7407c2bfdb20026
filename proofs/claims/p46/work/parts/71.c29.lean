section C29
variable {sv : Nat} {G G' : GM} {S S' : MS} {m m' M W : QM} {t : Int} {p i d c : Int} {T a : Nat}
theorem ea_prop : EA (sProp S p i d c) S := by
  refine ⟨fun J a b => funext fun y => ?_, fun J y a b => ?_, rfl, fun J a b => if_neg a, rfl⟩
  · unfold sProp sAdds
    simp only [ma_setf, ml_setf, mf_setf, ma_seta, ml_seta, mf_seta, ma_setl, ml_setl, mf_setl]
    rw [if_neg (by omega), if_neg (by omega), if_neg (by omega), if_neg (by omega), if_neg (by omega), if_neg (by omega), if_neg (by omega), if_neg (by omega), if_neg (by omega)]
  · unfold sProp sAdds
    simp only [ma_setf, ml_setf, mf_setf, ma_seta, ml_seta, mf_seta, ma_setl, ml_setl, mf_setl]
    rw [if_neg (by omega), if_neg (by omega), if_neg (by omega), if_neg (by omega), if_neg (by omega), if_neg (by omega), if_neg (by omega), if_neg (by omega), if_neg (by omega)]
theorem hc_d (hw : WR t S) (hp : 0 ≤ p) (hp' : p < 5) (hi : 0 ≤ i) (hi' : i < mf S 3) (g : gHC S p i = true) : ma S 4 i ≠ p ∧ ma S 25 (8 * p + i) ≠ -1 ∧ 0 ≤ ma S 25 (8 * p + i) ∧ ma S 25 (8 * p + i) < mf S 7 := by
  have hn := hw.nn
  have hc := hasCopy_c hw hp hp' hi hi' g
  have hx := hw.cp hp hp' hi (show i < 8 by omega)
  exact ⟨(of_decide_eq_true g).1, by omega, by omega, by omega⟩
theorem nPM {β : Type} {f : Option Nat → QX β} (h : CR sv G S m) (hw : WR t S) (pl : -2147483648 ≤ p) (ph : p < 2147483648) (il : -2147483648 ≤ i) (ih : i < 2147483648) : xb (F_X6_needPerson (I p)) (fun _ => xb (xo 7 (some sv) fun q => F_X6_meetingNumbered q (I i)) f) m = if (gP p && gM S i) = true then f (some (am G i)) m else some (.error 1, m) := by
  rw [pm h hw pl ph il ih, gPM_e, Bool.and_comm]
theorem q_propose (h : CR sv G S m) (hs : SI t S) (pl : -2147483648 ≤ p) (ph : p < 2147483648) (il : -2147483648 ≤ i) (ih : i < 2147483648) (dl : -2147483648 ≤ d) (dh : d < 2147483648) (cl : -2147483648 ≤ c) (ch : c < 2147483648) : OUTR sv (F_X6_propose sv (I p) (I i) (I d) (I c)) m (gP p && gM S i) (gD d && gC c) (gP p && gM S i && (gD d && gC c) && gHC S p i && gCD S p i d && decide (mf S 29 < 150)) (I (mf S 29)) (sProp S p i d c) S := by
  have hn := hs.wr.nn
  by_cases g1 : (gP p && gM S i) = true
  · have g1' := Bool.and_eq_true_iff.mp g1
    have qp := gP_d g1'.1
    have q := gM_d g1'.2
    have hm := h.mt i q.1 q.2
    have hx := hs.wr.mt q.1 q.2
    by_cases g2 : (gD d && gC c) = true
    · have g2' := Bool.and_eq_true_iff.mp g2
      have q2 := gD_d g2'.1
      have q2c : 0 ≤ c ∧ c ≤ 1439 := of_decide_eq_true g2'.2
      have e3 : (gP p && gM S i && (gD d && gC c) && gHC S p i && gCD S p i d && decide (mf S 29 < 150)) = (gHC S p i && gCD S p i d && decide (mf S 29 < 150)) := by rw [g1, g2]; rfl
      by_cases g3 : gHC S p i = true
      · have hc := hc_d hs.wr qp.1 qp.2 q.1 q.2 g3
        have hcs := hm.cs p qp.1 qp.2 hc.2.1
        have hcv := hcs.2
        by_cases g4 : gCD S p i d = true
        · by_cases g5 : decide (mf S 29 + 1 ≤ 150) = true
          · have q5 : mf S 29 < 150 := by have := of_decide_eq_true g5; omega
            have hM := (nm_m (m := m) (kd := I 2) (mt := some (am G i)) (sn := I p) (rc := I (ma S 4 i)) (ve := some (ac G (8 * p + i))))
            have gM := nm_g (m := m) (kd := I 2) (mt := some (am G i)) (sn := I p) (rc := I (ma S 4 i)) (ve := some (ac G (8 * p + i)))
            have qT : qtop (NM m (I 2) (some (am G i)) (I p) (I (ma S 4 i)) (some (ac G (8 * p + i)))) = qtop m + 1 := rfl
            have ei := c_msgInit (m := m) (kd := I 2) (mt := some (am G i)) (sn := I p) (rc := I (ma S 4 i)) (ve := some (ac G (8 * p + i)))
            generalize NM m (I 2) (some (am G i)) (I p) (I (ma S 4 i)) (some (ac G (8 * p + i))) = M at hM gM ei qT
            have hM1 := hM.w5 (x := I d)
            have hM2 := hM1.w6 (x := I c)
            have gM2 : GROW m (sfi (sfi M 133 (qtop m) (I d)) 134 (qtop m) (I c)) := (gM.sfi (Nat.le_refl _)).sfi (Nat.le_refl _)
            have qT2 : qtop (sfi (sfi M 133 (qtop m) (I d)) 134 (qtop m) (I c)) = qtop m + 1 := qT
            generalize hM2e : sfi (sfi M 133 (qtop m) (I d)) 134 (qtop m) (I c) = M2 at hM2 gM2 qT2
            have hC := h.grow gM2
            have iW : IMM sv m (fiT sv (mf S 29).toNat (some (qtop m)) (I (mf S 29 + 1)) M2) := fiT_im gM2.imm
            have k42 := (hs.fr.2.2 (mf S 29) (by omega) q5)
            have ea := ea_prop (S := S) (p := p) (i := i) (d := d) (c := c)
            have v31 : ma (sProp S p i d c) 31 (mf S 29) = 2 := by simp [sProp, sAdds, ma_setf, ml_setf, mf_setf, ma_seta, ml_seta, mf_seta, ma_setl, ml_setl, mf_setl]
            have v32 : ma (sProp S p i d c) 32 (mf S 29) = p := by simp [sProp, sAdds, ma_setf, ml_setf, mf_setf, ma_seta, ml_seta, mf_seta, ma_setl, ml_setl, mf_setl]
            have v33 : ma (sProp S p i d c) 33 (mf S 29) = ma S 4 i := by simp [sProp, sAdds, ma_setf, ml_setf, mf_setf, ma_seta, ml_seta, mf_seta, ma_setl, ml_setl, mf_setl]
            have v34 : ma (sProp S p i d c) 34 (mf S 29) = i := by simp [sProp, sAdds, ma_setf, ml_setf, mf_setf, ma_seta, ml_seta, mf_seta, ma_setl, ml_setl, mf_setl]
            have v36 : ma (sProp S p i d c) 36 (mf S 29) = ma S 9 (ma S 25 (8 * p + i)) := by simp [sProp, sAdds, ma_setf, ml_setf, mf_setf, ma_seta, ml_seta, mf_seta, ma_setl, ml_setl, mf_setl]
            have v37 : ma (sProp S p i d c) 37 (mf S 29) = d := by simp [sProp, sAdds, ma_setf, ml_setf, mf_setf, ma_seta, ml_seta, mf_seta, ma_setl, ml_setl, mf_setl]
            have v41 : ma (sProp S p i d c) 41 (mf S 29) = c := by simp [sProp, sAdds, ma_setf, ml_setf, mf_setf, ma_seta, ml_seta, mf_seta, ma_setl, ml_setl, mf_setl]
            have v42 : ma (sProp S p i d c) 42 (mf S 29) = 0 := by simp [sProp, sAdds, ma_setf, ml_setf, mf_setf, ma_seta, ml_seta, mf_seta, ma_setl, ml_setl, mf_setl, k42]
            have v43 : ma (sProp S p i d c) 43 (mf S 29) = 0 := by simp [sProp, sAdds, ma_setf, ml_setf, mf_setf, ma_seta, ml_seta, mf_seta, ma_setl, ml_setl, mf_setl, k42]
            have hv2 := hcv.fr iW
            have mg : MG sv (gap G (mf S 29) (qtop m) (ac G (8 * p + i))) (sProp S p i d c) (fiT sv (mf S 29).toNat (some (qtop m)) (I (mf S 29 + 1)) M2) (mf S 29) := by
              have e1 : ag (gap G (mf S 29) (qtop m) (ac G (8 * p + i))) (mf S 29) = qtop m := if_pos rfl
              have e2 : Jvm.Pilot.CMeetingServerLaw_law_r1901_9528e9.av (gap G (mf S 29) (qtop m) (ac G (8 * p + i))) (mf S 29) = ac G (8 * p + i) := if_pos rfl
              unfold MG
              rw [e1, e2, v31, v32, v33, v34, v36, v37, v41, v42, v43]
              refine ⟨h.cf.top, (by show qtop m < qtop M2; omega), hM2.ty, ?_, (fi_n (by decide)).trans hM2.f0, hM2.f1, (fi_n (by decide)).trans hM2.f2, (fi_n (by decide)).trans hM2.f3, hM2.f4, hv2.lo, hv2.hi, hv2.ty, hv2.f0, fun z => absurd z (by decide), (fi_n (by decide)).trans hM2.f5, fun _ => (fi_n (by decide)).trans hM2.f6, fun z => absurd z (by decide), fun z => absurd z (by decide), fun z => absurd z (by decide), fun _ => (fi_n (by decide)).trans hM2.f10, fun _ => (fi_n (by decide)).trans hM2.f11⟩
              rw [fiT_row, if_pos rfl]
            have hR := hC.app2 hs.wr hs.fr ea q5 v42 (by rw [v31]; decide) rfl (fun k x y => (h.mg k x y).hi) mg
            refine OUTR.ok g1 g2 (by rw [e3, g3, g4]; exact decide_eq_true q5) ⟨gap G (mf S 29) (qtop m) (ac G (8 * p + i)), _, ?_, hR, fiT_kp (gM2.kp h.cf.top)⟩
            have hP := c_putMessage hC.cf hC.f5 (by omega) q5 hM2.ty
            have t1 : qty (qnew m 2) (qtop m) = (1, 2, 0) := va_up_same _ _ _
            have hm3 : xgi 1 1 (some (am G i)) (qnew m 2) = some (.ok (I (ma S 4 i)), qnew m 2) := ((h.grow (GROW.refl m).qnew).mt i q.1 q.2).f1 |> x_gi rfl ((h.grow (GROW.refl m).qnew).mt i q.1 q.2).ty
            unfold F_X6_propose
            simp only [xb_xp, xb_as]
            rw [nPM h hs.wr pl ph il ih, if_pos g1, nDC dl dh cl ch, if_pos g2, xb_need (c_copyThere h hs.wr hs.lo qp.1 qp.2 q.1 q.2), if_pos g3, ov_b hcv, xb_ok (c_isDate hcv dl dh), g2'.1, Bool.true_and, xb_need (c_needState _ _), show hl (ml S 23 (ma S 25 (8 * p + i))) d = gCD S p i d from rfl, if_pos g4, os_b h.cf, gl1, xb_need (c_needRoom h hs.wr (by decide) (by decide)), if_pos g5]
            rw [xb_ok (x_new 2 m), xb_ok hm3, xb_xo t1, gl2, xb_ok ei, xb_ok (x_si (f := 133) rfl hM.ty), xb_ok (x_si (f := 134) rfl hM1.ty), hM2e, os hC.cf]
            exact hP
          · refine OUTR.e3 h g1 g2 (by rw [e3, g3, g4]; exact fun z => g5 (decide_eq_true (by have := of_decide_eq_true z; omega))) ?_
            unfold F_X6_propose
            simp only [xb_xp, xb_as]
            rw [nPM h hs.wr pl ph il ih, if_pos g1, nDC dl dh cl ch, if_pos g2, xb_need (c_copyThere h hs.wr hs.lo qp.1 qp.2 q.1 q.2), if_pos g3, ov_b hcv, xb_ok (c_isDate hcv dl dh), g2'.1, Bool.true_and, xb_need (c_needState _ _), show hl (ml S 23 (ma S 25 (8 * p + i))) d = gCD S p i d from rfl, if_pos g4, os_b h.cf, gl1, xb_need (c_needRoom h hs.wr (by decide) (by decide)), if_neg g5]
        · refine OUTR.e3 h g1 g2 (by rw [e3, Bool.eq_false_iff.mpr g4, Bool.and_false, Bool.false_and]; decide) ?_
          unfold F_X6_propose
          simp only [xb_xp, xb_as]
          rw [nPM h hs.wr pl ph il ih, if_pos g1, nDC dl dh cl ch, if_pos g2, xb_need (c_copyThere h hs.wr hs.lo qp.1 qp.2 q.1 q.2), if_pos g3, ov_b hcv, xb_ok (c_isDate hcv dl dh), g2'.1, Bool.true_and, xb_need (c_needState _ _), show hl (ml S 23 (ma S 25 (8 * p + i))) d = gCD S p i d from rfl, if_neg g4]
      · refine OUTR.e3 h g1 g2 (by rw [e3, Bool.eq_false_iff.mpr g3, Bool.false_and, Bool.false_and]; decide) ?_
        unfold F_X6_propose
        simp only [xb_xp, xb_as]
        rw [nPM h hs.wr pl ph il ih, if_pos g1, nDC dl dh cl ch, if_pos g2, xb_need (c_copyThere h hs.wr hs.lo qp.1 qp.2 q.1 q.2), if_neg g3]
    · refine OUTR.e2 h g1 g2 ?_
      unfold F_X6_propose
      simp only [xb_xp, xb_as]
      rw [nPM h hs.wr pl ph il ih, if_pos g1, nDC dl dh cl ch, if_neg g2]
  · refine OUTR.e1 h g1 ?_
    unfold F_X6_propose
    simp only [xb_xp, xb_as]
    rw [nPM h hs.wr pl ph il ih, if_neg g1]
end C29
