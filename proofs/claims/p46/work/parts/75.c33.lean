section C33
variable {sv : Nat} {G G' : GM} {S S1 X : MS} {m m' M W : QM} {t : Int} {p i d w o k : Int} {T a b : Nat}
theorem nPPM {β : Type} {f : Option Nat → QX β} (h : CR sv G S m) (hw : WR t S) (pl : -2147483648 ≤ p) (ph : p < 2147483648) (ol : -2147483648 ≤ o) (oh : o < 2147483648) (il : -2147483648 ≤ i) (ih : i < 2147483648) : xb (F_X6_needPerson (I p)) (fun _ => xb (F_X6_needPerson (I o)) fun _ => xb (xo 7 (some sv) fun q => F_X6_meetingNumbered q (I i)) f) m = if (gP p && gM S i && gP o) = true then f (some (am G i)) m else some (.error 1, m) := by
  rw [xb_need (c_needPerson pl ph)]
  by_cases g : gP p = true
  · rw [if_pos g, xb_need (c_needPerson ol oh), g, Bool.true_and]
    by_cases g2 : gP o = true
    · rw [if_pos g2, os_b h.cf, xb_need (c_meetingNumbered h hw il ih), g2, Bool.and_true]
    · rw [if_neg g2, Bool.eq_false_iff.mpr g2, Bool.and_false]; rfl
  · rw [if_neg g, Bool.eq_false_iff.mpr g]; rfl
theorem nO {β : Type} {f : Unit → QX β} (hm : MT sv G S m i) (hw : WR t S) (hi : 0 ≤ i) (hi' : i < mf S 3) (hp : 0 ≤ p) (hp' : p < 5) (ho : 0 ≤ o) (ho' : o < 5) : xb (if decide (¬ I o = I p) = true then xb (xgi 1 1 (some (am G i))) fun v10 => xp (decide (¬ I o = v10)) else xp false) (fun v => xb (F_X6_needArgument (b2i v)) f) m = if gO S p i o = true then f () m else some (.error 2, m) := by
  have hx := hw.mt hi hi'
  rw [d_ne (by omega) (by omega) (by omega) (by omega)]
  rw [xb_ok (xif_and (b := decide (¬ o = ma S 4 i)) (fun _ => by rw [xb_ok (x_gi rfl hm.ty hm.f1), xp_ap, d_ne (by omega) (by omega) (by omega) (by omega)]))]
  rw [xb_need (c_needArgument _ _)]; rfl
theorem del_f {x y : Int} (hs : SI t S) (ht : t + 2 ≤ 600) (q5 : mf S 29 < 150) (hp : 0 ≤ p) (hp' : p < 5) (hi : 0 ≤ i) (hi' : i < mf S 3) (hc : ma S 25 (8 * p + i) ≠ -1) (x0 : -1 ≤ x) (x1 : x < 60) (y0 : 0 ≤ y) (y1 : y ≤ 4) : ∃ SP SR : MS, SP = sRep1 S p i x y ∧ SR = sRep S p i x y ∧ SR = sMarks SP p i ∧ WR t SP ∧ EA SP S ∧ mf SP 30 = mf S 30 + 1 ∧
    (ma SP 31 (mf S 29) = 1 ∧ ma SP 32 (mf S 29) = p ∧ ma SP 33 (mf S 29) = ma S 4 i ∧ ma SP 34 (mf S 29) = i ∧ ma SP 36 (mf S 29) = ma S 9 (ma S 25 (8 * p + i)) ∧ ma SP 37 (mf S 29) = x ∧ ma SP 38 (mf S 29) = y ∧ ma SP 39 (mf S 29) = mf S 30 ∧ ma SP 42 (mf S 29) = 0) ∧
    WR (t + 1) SR ∧ FRV SR ∧ mf SR 29 = mf S 29 + 1 ∧ mf SR 3 = mf S 3 ∧ ∀ y, ma SR 25 y = ma S 25 y := by
  have hn := hs.wr.nn
  have k42 := (hs.fr.2.2 (mf S 29) (by omega) q5)
  have hW := wr_rep1 (p := p) (i := i) (d := x) (w := y) hs.wr hs.fr hs.mq.1 q5 hp hp' hi hi' hc x0 x1 y0 y1
  refine ⟨sRep1 S p i x y, sRep S p i x y, rfl, rfl, rfl, hW, ea_rep, rfl, ⟨(by simp [sRep1, sAdds, ma_setf, ml_setf, mf_setf, ma_seta, ml_seta, mf_seta, ma_setl, ml_setl, mf_setl]), (by simp [sRep1, sAdds, ma_setf, ml_setf, mf_setf, ma_seta, ml_seta, mf_seta, ma_setl, ml_setl, mf_setl]), (by simp [sRep1, sAdds, ma_setf, ml_setf, mf_setf, ma_seta, ml_seta, mf_seta, ma_setl, ml_setl, mf_setl]), (by simp [sRep1, sAdds, ma_setf, ml_setf, mf_setf, ma_seta, ml_seta, mf_seta, ma_setl, ml_setl, mf_setl]), (by simp [sRep1, sAdds, ma_setf, ml_setf, mf_setf, ma_seta, ml_seta, mf_seta, ma_setl, ml_setl, mf_setl]), (by simp [sRep1, sAdds, ma_setf, ml_setf, mf_setf, ma_seta, ml_seta, mf_seta, ma_setl, ml_setl, mf_setl]), (by simp [sRep1, sAdds, ma_setf, ml_setf, mf_setf, ma_seta, ml_seta, mf_seta, ma_setl, ml_setl, mf_setl]), (by simp [sRep1, sAdds, ma_setf, ml_setf, mf_setf, ma_seta, ml_seta, mf_seta, ma_setl, ml_setl, mf_setl]), (by simp [sRep1, sAdds, ma_setf, ml_setf, mf_setf, ma_seta, ml_seta, mf_seta, ma_setl, ml_setl, mf_setl, k42])⟩, wr_marks hW (by omega) hp hp' hi (by rw [ea_rep.2.2.2.1 3 (by decide) (by decide)]; exact hi'), fr_rep hs.fr hp hp' hi hi' (by omega), by rw [rep_f]; rfl, by rw [rep_f]; rfl, fun y => rep_a _ _ _ _ _ _ _ (by decide)⟩
theorem q_delegate (h : CR sv G S m) (hs : SI t S) (ht : t + 2 ≤ 600) (pl : -2147483648 ≤ p) (ph : p < 2147483648) (il : -2147483648 ≤ i) (ih : i < 2147483648) (ol : -2147483648 ≤ o) (oh : o < 2147483648) : OUTR sv (F_X6_delegate sv (I p) (I i) (I o)) m (gP p && gM S i && gP o) (gP p && gM S i && gP o && gO S p i o) (gP p && gM S i && gP o && gHC S p i && decide (mf S 29 + 2 ≤ 150)) (I (mf S 29)) (sDel S p i o) S := by
  have hn := hs.wr.nn
  by_cases g1 : (gP p && gM S i && gP o) = true
  · have g1' := Bool.and_eq_true_iff.mp g1
    have g1'' := Bool.and_eq_true_iff.mp g1'.1
    have qp := gP_d g1''.1
    have qo := gP_d g1'.2
    have q := gM_d g1''.2
    have hm := h.mt i q.1 q.2
    have hx := hs.wr.mt q.1 q.2
    have e2 : (gP p && gM S i && gP o && gO S p i o) = gO S p i o := by rw [g1]; rfl
    have e3 : (gP p && gM S i && gP o && gHC S p i && decide (mf S 29 + 2 ≤ 150)) = (gHC S p i && decide (mf S 29 + 2 ≤ 150)) := by rw [g1]; rfl
    by_cases g2 : gO S p i o = true
    · by_cases g3 : gHC S p i = true
      · have hc := hc_d hs.wr qp.1 qp.2 q.1 q.2 g3
        have hcs := hm.cs p qp.1 qp.2 hc.2.1
        have hcv := hcs.2
        by_cases g5 : decide (mf S 29 + 2 ≤ 150) = true
        · have q6 := of_decide_eq_true g5
          have q5 : mf S 29 < 150 := by omega
          have hM := (nm_m (m := m) (kd := I 1) (mt := some (am G i)) (sn := I p) (rc := I (ma S 4 i)) (ve := some (ac G (8 * p + i))))
          have gM := nm_g (m := m) (kd := I 1) (mt := some (am G i)) (sn := I p) (rc := I (ma S 4 i)) (ve := some (ac G (8 * p + i)))
          have qT : qtop (NM m (I 1) (some (am G i)) (I p) (I (ma S 4 i)) (some (ac G (8 * p + i)))) = qtop m + 1 := rfl
          have ei := c_msgInit (m := m) (kd := I 1) (mt := some (am G i)) (sn := I p) (rc := I (ma S 4 i)) (ve := some (ac G (8 * p + i)))
          generalize NM m (I 1) (some (am G i)) (I p) (I (ma S 4 i)) (some (ac G (8 * p + i))) = M at hM gM ei qT
          rw [glm1] at hM
          have hM1 := hM.w7 (x := I 4)
          have hM2 := hM1.w8 (x := I o)
          have gM2 : GROW m (sfi (sfi M 135 (qtop m) (I 4)) 136 (qtop m) (I o)) := (gM.sfi (Nat.le_refl _)).sfi (Nat.le_refl _)
          have qT2 : qtop (sfi (sfi M 135 (qtop m) (I 4)) 136 (qtop m) (I o)) = qtop m + 1 := qT
          generalize hM2e : sfi (sfi M 135 (qtop m) (I 4)) 136 (qtop m) (I o) = M2 at hM2 gM2 qT2
          obtain ⟨SP, SR, d1, d2, sr, hW, ea0, f30, ⟨u31, u32, u33, u34, u36, u37, u38, u39, u42⟩, hwm, hfm, n29, n3, n25⟩ := del_f (p := p) (i := i) (x := -1) (y := 4) hs ht q5 qp.1 qp.2 q.1 q.2 hc.2.1 (by decide) (by decide) (by decide) (by decide)
          have ea := ea0.oo (o := o)
          have hW2 := wr_other (k := mf S 29) (o := o) hW qo.1 qo.2
          have n40 : ∀ J y, J ≠ 40 → ma (seta SP 40 (mf S 29) o) J y = ma SP J y := fun J y z => congrFun (seta_ne z) y
          have o40 : ma (seta SP 40 (mf S 29) o) 40 (mf S 29) = o := if_pos ⟨rfl, rfl⟩
          have hw3 := wr_other (k := mf S 29) (o := o) hwm qo.1 qo.2
          have hf3 := fr_o (k := mf S 29) (o := o) hfm (by rw [n29]; omega)
          have dl : sDel S p i o = sReq (seta SR 40 (mf S 29) o) p o i (ma S 25 (8 * p + i)) := by rw [d2]; rfl
          rw [dl]
          obtain ⟨m', r1, r2, r3⟩ := c_putReply (S1 := seta SP 40 (mf S 29) o) (v := ma S 25 (8 * p + i)) h hs (by omega) q5 gM2 qT2 hM2 hcv hc.2.2.1 hc.2.2.2 qp.1 qp.2 q.1 q.2 (by omega) (by omega) hW2 ea
            ((n40 _ _ (by decide)).trans u31) ((n40 _ _ (by decide)).trans u32) ((n40 _ _ (by decide)).trans u33) ((n40 _ _ (by decide)).trans u34) ((n40 _ _ (by decide)).trans u36) ((n40 _ _ (by decide)).trans u37) ((n40 _ _ (by decide)).trans u38) ((n40 _ _ (by decide)).trans u39) ((n40 _ _ (by decide)).trans u42) (by rw [if_pos rfl, o40]) f30
          rw [marks_40, ← sr] at r2
          have k25 : ma (seta SR 40 (mf S 29) o) 25 (8 * p + i) = ma S 25 (8 * p + i) := (congrFun (seta_ne (by decide)) _).trans (n25 _)
          have hm' := r2.mt i q.1 (show i < mf SR 3 by rw [n3]; exact q.2)
          have hv' := (hm'.cs p qp.1 qp.2 (by rw [k25]; exact hc.2.1)).2
          rw [k25] at hv'
          obtain ⟨m2, s1, s2, s3, _⟩ := c_putRequest (f := p) (r := o) (i := i) r2 hw3 hf3 (show mf SR 29 < 150 by rw [n29]; omega) hv' q.1 (show i < mf SR 3 by rw [n3]; exact q.2)
          refine OUTR.ok g1 (e2.trans g2) (by rw [e3, g3]; exact g5) ⟨_, m2, ?_, s2, r3.trans s3⟩
          have t1 : qty (qnew m 2) (qtop m) = (1, 2, 0) := va_up_same _ _ _
          have hm3 : xgi 1 1 (some (am G i)) (qnew m 2) = some (.ok (I (ma S 4 i)), qnew m 2) := ((h.grow (GROW.refl m).qnew).mt i q.1 q.2).f1 |> x_gi rfl ((h.grow (GROW.refl m).qnew).mt i q.1 q.2).ty
          have s1' : F_X6_putRequest sv (some (am G i)) (I p) (I o) (some (ac G (8 * p + i))) m' = some (.ok (), m2) := s1
          unfold F_X6_delegate
          simp only [xb_xp, xb_as]
          rw [nPPM h hs.wr pl ph ol oh il ih, if_pos g1, nO hm hs.wr q.1 q.2 qp.1 qp.2 qo.1 qo.2, if_pos g2, xb_need (c_copyThere h hs.wr hs.lo qp.1 qp.2 q.1 q.2), if_pos g3, os_b h.cf, gl2, xb_need (c_needRoom h hs.wr (by decide) (by decide)), if_pos g5]
          rw [xb_ok (x_new 2 m), xb_ok hm3, xb_xo t1, gl1, xb_ok ei, gl4, xb_ok (x_si (f := 135) rfl hM.ty), xb_ok (x_si (f := 136) rfl hM1.ty), hM2e, os_b (h.grow gM2).cf, xb_ok r1, os_b r2.cf, xb_ok s1', xp_ap]
        · refine OUTR.e3 h g1 (e2.trans g2) (by rw [e3, g3]; exact g5) ?_
          unfold F_X6_delegate
          simp only [xb_xp, xb_as]
          rw [nPPM h hs.wr pl ph ol oh il ih, if_pos g1, nO hm hs.wr q.1 q.2 qp.1 qp.2 qo.1 qo.2, if_pos g2, xb_need (c_copyThere h hs.wr hs.lo qp.1 qp.2 q.1 q.2), if_pos g3, os_b h.cf, gl2, xb_need (c_needRoom h hs.wr (by decide) (by decide)), if_neg g5]
      · refine OUTR.e3 h g1 (e2.trans g2) (by rw [e3, Bool.eq_false_iff.mpr g3, Bool.false_and]; decide) ?_
        unfold F_X6_delegate
        simp only [xb_xp, xb_as]
        rw [nPPM h hs.wr pl ph ol oh il ih, if_pos g1, nO hm hs.wr q.1 q.2 qp.1 qp.2 qo.1 qo.2, if_pos g2, xb_need (c_copyThere h hs.wr hs.lo qp.1 qp.2 q.1 q.2), if_neg g3]
    · refine OUTR.e2 h g1 (by rw [e2]; exact g2) ?_
      unfold F_X6_delegate
      simp only [xb_xp, xb_as]
      rw [nPPM h hs.wr pl ph ol oh il ih, if_pos g1, nO hm hs.wr q.1 q.2 qp.1 qp.2 qo.1 qo.2, if_neg g2]
  · refine OUTR.e1 h g1 ?_
    unfold F_X6_delegate
    simp only [xb_xp, xb_as]
    rw [nPPM h hs.wr pl ph ol oh il ih, if_neg g1]
end C33
