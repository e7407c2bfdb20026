section C32
variable {sv : Nat} {G G' : GM} {S S1 X : MS} {m m' M W : QM} {t : Int} {p i d w o k : Int} {T a b : Nat}
theorem seta_comm {J K : Nat} {z y x v : Int} (h : J ≠ K) : seta (seta S J z x) K y v = seta (seta S K y v) J z x := Prod.ext (funext fun L => funext fun u => by
  show (if L = K ∧ u = y then v else if L = J ∧ u = z then x else ma S L u) = if L = J ∧ u = z then x else if L = K ∧ u = y then v else ma S L u
  by_cases c : L = K ∧ u = y
  · rw [if_pos c, if_neg (fun q => h (q.1.symm.trans c.1)), if_pos c]
  · rw [if_neg c, if_neg c]) rfl
theorem isHere_40 (j : Int) : isHere (seta X 40 k o) p j = isHere X p j := by
  unfold isHere
  rw [seta_ne (show 4 ≠ 40 by decide), seta_ne (show 5 ≠ 40 by decide), seta_ne (show 19 ≠ 40 by decide), seta_ne (show 25 ≠ 40 by decide), seta_ne (show 18 ≠ 40 by decide)]
theorem goneTo_40 : ∀ j, goneTo (seta X 40 k o) p j = goneTo X p j := by
  intro j
  induction j with
  | zero => rfl
  | succ j ih =>
    show (if 0 < ma (seta X 40 k o) 26 (8 * p + j) ∧ isHere (seta X 40 k o) p j = false then ((goneTo (seta X 40 k o) p j).1 + 1, if (goneTo (seta X 40 k o) p j).2 = -1 ∨ ma (seta X 40 k o) 26 (8 * p + j) < ma (seta X 40 k o) 26 (8 * p + (goneTo (seta X 40 k o) p j).2) then (j : Int) else (goneTo (seta X 40 k o) p j).2) else goneTo (seta X 40 k o) p j) = _
    rw [ih, isHere_40, seta_ne (show 26 ≠ 40 by decide)]; rfl
theorem marked1_40 : marked1 (seta X 40 k o) p i = seta (marked1 X p i) 40 k o := by
  unfold marked1
  rw [seta_ne (show 27 ≠ 40 by decide), seta_comm (show 40 ≠ 27 by decide), seta_comm (show 40 ≠ 26 by decide)]
theorem marks_40 : sMarks (seta X 40 k o) p i = seta (sMarks X p i) 40 k o := by
  unfold sMarks
  rw [marked1_40, goneTo_40, show mf (seta X 40 k o) 3 = mf X 3 from rfl, seta_ne (show 26 ≠ 40 by decide)]
  by_cases c : 3 < (goneTo (marked1 X p i) p (mf X 3).toNat).1
  · rw [if_pos c, if_pos c, seta_comm (show 40 ≠ 28 by decide), seta_comm (show 40 ≠ 26 by decide)]
  · rw [if_neg c, if_neg c]
theorem fr_o (hf : FRV X) (hk : k < mf X 29) : FRV (seta X 40 k o) := by
  obtain ⟨a1, a2, a3⟩ := hf
  have n : ∀ J, J ≠ 40 → ma (seta X 40 k o) J = ma X J := fun J h => seta_ne h
  refine ⟨?_, ?_, fun l x y => ?_⟩
  · simp only [n 8 (by decide), n 9 (by decide), n 17 (by decide), n 18 (by decide), n 19 (by decide), n 24 (by decide)]; exact a1
  · simp only [n 5 (by decide), n 6 (by decide), n 25 (by decide), n 26 (by decide)]; exact a2
  · have := a3 l x y
    simp only [n 36 (by decide), n 38 (by decide), n 39 (by decide), n 41 (by decide), n 42 (by decide), n 43 (by decide)]
    have e : ma (seta X 40 k o) 40 l = ma X 40 l := if_neg (fun q => by have x : mf X 29 ≤ l := x; omega)
    rw [e]; exact this
theorem ea_rep : EA (sRep1 S p i d w) S := by
  refine ⟨fun J a b => funext fun y => ?_, fun J y a b => ?_, rfl, fun J a b => (if_neg b).trans (if_neg a), rfl⟩
  · unfold sRep1 sAdds
    simp only [ma_setf, ml_setf, mf_setf, ma_seta, ml_seta, mf_seta, ma_setl, ml_setl, mf_setl]
    rw [if_neg (by omega), if_neg (by omega), if_neg (by omega), if_neg (by omega), if_neg (by omega), if_neg (by omega), if_neg (by omega), if_neg (by omega), if_neg (by omega), if_neg (by omega)]
  · unfold sRep1 sAdds
    simp only [ma_setf, ml_setf, mf_setf, ma_seta, ml_seta, mf_seta, ma_setl, ml_setl, mf_setl]
    rw [if_neg (by omega), if_neg (by omega), if_neg (by omega), if_neg (by omega), if_neg (by omega), if_neg (by omega), if_neg (by omega), if_neg (by omega), if_neg (by omega), if_neg (by omega)]
theorem EA.oo (e : EA X S) : EA (seta X 40 (mf S 29) o) S :=
  ⟨fun J a b => (seta_ne (by omega)).trans (e.1 J a b), fun J y a b => (if_neg (fun q => b q.2)).trans (e.2.1 J y a b), e.2.2.1, e.2.2.2.1, e.2.2.2.2⟩
theorem nA {β : Type} {f : Unit → QX β} (dl : -2147483648 ≤ d) (dh : d < 2147483648) (wl : -2147483648 ≤ w) (wh : w < 2147483648) : xb (if decide (I d = (-1 : Int32)) = true then xp true else xb (F_X6_isDay (I d)) fun v8 => xp (decide (¬ v8 = 0))) (fun v9 => xb (F_X6_needArgument (b2i v9)) fun _ => xb (F_X6_needRange (I w) (1 : Int32) (3 : Int32)) f) m = if gA d w = true then f () m else some (.error 2, m) := by
  rw [glm1, d_eq (by omega) (by omega) (by omega) (by omega)]
  rw [xb_ok (xif_or (b := gD d) (fun _ => by rw [c_isDay dl dh, xb_xp, b2ne]; rfl))]
  rw [xb_need (c_needArgument _ _)]
  unfold gA
  rw [show (decide (0 ≤ d ∧ d ≤ 59)) = gD d from rfl]
  by_cases g : (decide (d = -1) || gD d) = true
  · rw [if_pos g, gl1, gl3, xb_need (c_needRange wl wh (by decide) (by decide) (by decide) (by decide)), g, Bool.true_and]; rfl
  · rw [if_neg g, Bool.eq_false_iff.mpr g]; rfl
theorem q_answer (h : CR sv G S m) (hs : SI t S) (ht : t + 2 ≤ 600) (pl : -2147483648 ≤ p) (ph : p < 2147483648) (il : -2147483648 ≤ i) (ih : i < 2147483648) (dl : -2147483648 ≤ d) (dh : d < 2147483648) (wl : -2147483648 ≤ w) (wh : w < 2147483648) : OUTR sv (F_X6_answer sv (I p) (I i) (I d) (I w)) m (gP p && gM S i) (gA d w) (gP p && gM S i && gA d w && gHC S p i && (decide (d = -1) || gCD S p i d) && decide (mf S 29 < 150)) (I (mf S 29)) (sRep S p i d w) S := by
  have hn := hs.wr.nn
  by_cases g1 : (gP p && gM S i) = true
  · have g1' := Bool.and_eq_true_iff.mp g1
    have qp := gP_d g1'.1
    have q := gM_d g1'.2
    have hm := h.mt i q.1 q.2
    have hx := hs.wr.mt q.1 q.2
    by_cases g2 : gA d w = true
    · have g2' : (d = -1 ∨ (0 ≤ d ∧ d ≤ 59)) ∧ (1 ≤ w ∧ w ≤ 3) := by
        have z := g2
        unfold gA at z
        simp only [Bool.and_eq_true, Bool.or_eq_true, decide_eq_true_eq] at z
        exact z
      have e3 : (gP p && gM S i && gA d w && gHC S p i && (decide (d = -1) || gCD S p i d) && decide (mf S 29 < 150)) = (gHC S p i && (decide (d = -1) || gCD S p i d) && decide (mf S 29 < 150)) := by rw [g1, g2]; rfl
      by_cases g3 : gHC S p i = true
      · have hc := hc_d hs.wr qp.1 qp.2 q.1 q.2 g3
        have hcs := hm.cs p qp.1 qp.2 hc.2.1
        have hcv := hcs.2
        have stq : ∀ {β : Type} (f : Bool → QX β), xb (if decide (I d = (-1 : Int32)) = true then xp true else xb (xo 5 (some (ac G (8 * p + i))) fun q => F_X4_isDate q (I d)) fun v22 => xp (decide (¬ v22 = 0))) f m = f (decide (d = -1) || gCD S p i d) m := fun f => by
          rw [glm1, d_eq (by omega) (by omega) (by omega) (by omega)]
          rw [xb_ok (xif_or (b := gCD S p i d) (fun z => by
            have z := of_decide_eq_false z
            rw [ov_b hcv, xb_ok (c_isDate hcv dl dh), show gD d = true from decide_eq_true (by omega), Bool.true_and, xp_ap, b2ne]; rfl))]
        by_cases g4 : (decide (d = -1) || gCD S p i d) = true
        · by_cases g5 : decide (mf S 29 + 1 ≤ 150) = true
          · have q5 : mf S 29 < 150 := by have := of_decide_eq_true g5; omega
            have hM := (nm_m (m := m) (kd := I 1) (mt := some (am G i)) (sn := I p) (rc := I (ma S 4 i)) (ve := some (ac G (8 * p + i))))
            have gM := nm_g (m := m) (kd := I 1) (mt := some (am G i)) (sn := I p) (rc := I (ma S 4 i)) (ve := some (ac G (8 * p + i)))
            have qT : qtop (NM m (I 1) (some (am G i)) (I p) (I (ma S 4 i)) (some (ac G (8 * p + i)))) = qtop m + 1 := rfl
            have ei := c_msgInit (m := m) (kd := I 1) (mt := some (am G i)) (sn := I p) (rc := I (ma S 4 i)) (ve := some (ac G (8 * p + i)))
            generalize NM m (I 1) (some (am G i)) (I p) (I (ma S 4 i)) (some (ac G (8 * p + i))) = M at hM gM ei qT
            have hM1 := hM.w5 (x := I d)
            have hM2 := hM1.w7 (x := I w)
            have gM2 : GROW m (sfi (sfi M 133 (qtop m) (I d)) 135 (qtop m) (I w)) := (gM.sfi (Nat.le_refl _)).sfi (Nat.le_refl _)
            have qT2 : qtop (sfi (sfi M 133 (qtop m) (I d)) 135 (qtop m) (I w)) = qtop m + 1 := qT
            generalize hM2e : sfi (sfi M 133 (qtop m) (I d)) 135 (qtop m) (I w) = M2 at hM2 gM2 qT2
            have k42 := (hs.fr.2.2 (mf S 29) (by omega) q5)
            have hW := wr_rep1 (p := p) (i := i) (d := d) (w := w) hs.wr hs.fr hs.mq.1 q5 qp.1 qp.2 q.1 q.2 hc.2.1 (by omega) (by omega) (by omega) (by omega)
            obtain ⟨m', r1, r2, r3⟩ := c_putReply (S1 := sRep1 S p i d w) (v := ma S 25 (8 * p + i)) h hs (by omega) q5 gM2 qT2 hM2 hcv hc.2.2.1 hc.2.2.2 qp.1 qp.2 q.1 q.2 (by omega) (by omega) hW ea_rep
              (by simp [sRep1, sAdds, ma_setf, ml_setf, mf_setf, ma_seta, ml_seta, mf_seta, ma_setl, ml_setl, mf_setl]) (by simp [sRep1, sAdds, ma_setf, ml_setf, mf_setf, ma_seta, ml_seta, mf_seta, ma_setl, ml_setl, mf_setl]) (by simp [sRep1, sAdds, ma_setf, ml_setf, mf_setf, ma_seta, ml_seta, mf_seta, ma_setl, ml_setl, mf_setl]) (by simp [sRep1, sAdds, ma_setf, ml_setf, mf_setf, ma_seta, ml_seta, mf_seta, ma_setl, ml_setl, mf_setl]) (by simp [sRep1, sAdds, ma_setf, ml_setf, mf_setf, ma_seta, ml_seta, mf_seta, ma_setl, ml_setl, mf_setl]) (by simp [sRep1, sAdds, ma_setf, ml_setf, mf_setf, ma_seta, ml_seta, mf_seta, ma_setl, ml_setl, mf_setl]) (by simp [sRep1, sAdds, ma_setf, ml_setf, mf_setf, ma_seta, ml_seta, mf_seta, ma_setl, ml_setl, mf_setl]) (by simp [sRep1, sAdds, ma_setf, ml_setf, mf_setf, ma_seta, ml_seta, mf_seta, ma_setl, ml_setl, mf_setl]) (by simp [sRep1, sAdds, ma_setf, ml_setf, mf_setf, ma_seta, ml_seta, mf_seta, ma_setl, ml_setl, mf_setl, k42]) (by rw [if_neg (show ¬ w = 4 by omega)]; decide) rfl
            refine OUTR.ok g1 g2 (by rw [e3, g3, g4]; exact decide_eq_true q5) ⟨gap G (mf S 29) (qtop m) (ac G (8 * p + i)), m', ?_, r2, r3⟩
            have t1 : qty (qnew m 2) (qtop m) = (1, 2, 0) := va_up_same _ _ _
            have hm3 : xgi 1 1 (some (am G i)) (qnew m 2) = some (.ok (I (ma S 4 i)), qnew m 2) := ((h.grow (GROW.refl m).qnew).mt i q.1 q.2).f1 |> x_gi rfl ((h.grow (GROW.refl m).qnew).mt i q.1 q.2).ty
            unfold F_X6_answer
            simp only [xb_xp, xb_as]
            rw [nPM h hs.wr pl ph il ih, if_pos g1, nA dl dh wl wh, if_pos g2, xb_need (c_copyThere h hs.wr hs.lo qp.1 qp.2 q.1 q.2), if_pos g3, stq, xb_need (c_needState _ _), if_pos g4, os_b h.cf, gl1, xb_need (c_needRoom h hs.wr (by decide) (by decide)), if_pos g5]
            rw [xb_ok (x_new 2 m), xb_ok hm3, xb_xo t1, xb_ok ei, xb_ok (x_si (f := 133) rfl hM.ty), xb_ok (x_si (f := 135) rfl hM1.ty), hM2e, os (h.grow gM2).cf]
            exact r1
          · refine OUTR.e3 h g1 g2 (by rw [e3, g3, g4]; exact fun z => g5 (decide_eq_true (by have := of_decide_eq_true z; omega))) ?_
            unfold F_X6_answer
            simp only [xb_xp, xb_as]
            rw [nPM h hs.wr pl ph il ih, if_pos g1, nA dl dh wl wh, if_pos g2, xb_need (c_copyThere h hs.wr hs.lo qp.1 qp.2 q.1 q.2), if_pos g3, stq, xb_need (c_needState _ _), if_pos g4, os_b h.cf, gl1, xb_need (c_needRoom h hs.wr (by decide) (by decide)), if_neg g5]
        · refine OUTR.e3 h g1 g2 (by rw [e3, Bool.eq_false_iff.mpr g4, Bool.and_false, Bool.false_and]; decide) ?_
          unfold F_X6_answer
          simp only [xb_xp, xb_as]
          rw [nPM h hs.wr pl ph il ih, if_pos g1, nA dl dh wl wh, if_pos g2, xb_need (c_copyThere h hs.wr hs.lo qp.1 qp.2 q.1 q.2), if_pos g3, stq, xb_need (c_needState _ _), if_neg g4]
      · refine OUTR.e3 h g1 g2 (by rw [e3, Bool.eq_false_iff.mpr g3, Bool.false_and, Bool.false_and]; decide) ?_
        unfold F_X6_answer
        simp only [xb_xp, xb_as]
        rw [nPM h hs.wr pl ph il ih, if_pos g1, nA dl dh wl wh, if_pos g2, xb_need (c_copyThere h hs.wr hs.lo qp.1 qp.2 q.1 q.2), if_neg g3]
    · refine OUTR.e2 h g1 g2 ?_
      unfold F_X6_answer
      simp only [xb_xp, xb_as]
      rw [nPM h hs.wr pl ph il ih, if_pos g1, nA dl dh wl wh, if_neg g2]
  · refine OUTR.e1 h g1 ?_
    unfold F_X6_answer
    simp only [xb_xp, xb_as]
    rw [nPM h hs.wr pl ph il ih, if_neg g1]
end C32
