/-! pairs of calls on meetings -/
section C50
variable {sv : Nat} {G : GM} {S S1 : MS} {m : QM} {t : Int} {i d c s w p : Int}
theorem gN_45 {x : Int} : gN (setf S 45 x) i d = gN S i d := id rfl
theorem gS_45 {x : Int} (b : Bool) : gS (setf S 45 x) i p b = gS S i p b := id rfl
theorem ma_45 {x y : Int} {J : Nat} : ma (setf S 45 x) J y = ma S J y := id rfl
theorem j_repeat (h : CR sv G S m) (hs : SI t S) (ht : t + 2 ≤ 600) (hR : RM (sv + 20) S m) (il : -2147483648 ≤ i) (ih : i < 2147483648) (sl : -2147483648 ≤ s) (sh : s < 2147483648) (wl : -2147483648 ≤ w) (wh : w < 2147483648) (cl : -2147483648 ≤ c) (ch : c < 2147483648) : JN sv t (F_X6_repeat sv (I i) (I s) (I w) (I c)) (F_X7_repeat (sv + 20) (I i) (I s) (I w) (I c)) m (rs3 (gM S i) (gR s w c) (gH S i) (I (rI S i 9))) (if ((gM S i) && (gR s w c) && (gH S i)) = true then I (rI S i 9) else I 0) (gc (gM S i) (gR s w c) (gH S i)) := by
  have hx := q_repeat (i := i) (s := s) (w := w) (c := c)  (h.thr 0) (hs.thr 0) ht il ih sl sh wl wh cl ch
  rw [gM_45, gH_45, rI_45] at hx
  have hP := e_repeat  (hs.vok ht) il ih sl sh wl wh cl ch
  have h1 : ((gM S i) && (gR s w c) && (gH S i)) = true → SI (t + 1) (sRepeat (setf S 45 0) i s w c) := fun g => by
    have g1 := Bool.and_eq_true_iff.mp g
    have g2 := Bool.and_eq_true_iff.mp g1.1
    exact (hs.thr 0).repeat ht g2.1 g2.2
  have h2 : mf (sRepeat (setf S 45 0) i s w c) 45 = 0 := hold_45.trans rfl
  generalize sRepeat (setf S 45 0) i s w c = X at hx hP h1 h2
  exact join hs (by omega) hR hx (sm_X7_repeat _ _ _ _ _) hP (rfl) h1 (fun _ => h2)
theorem j_drop (h : CR sv G S m) (hs : SI t S) (ht : t + 2 ≤ 600) (hR : RM (sv + 20) S m) (il : -2147483648 ≤ i) (ih : i < 2147483648) (dl : -2147483648 ≤ d) (dh : d < 2147483648) : JN sv t (F_X6_drop sv (I i) (I d)) (F_X7_drop (sv + 20) (I i) (I d)) m (rs3 (gM S i) (gD d) (gM S i && gD d && gH S i && gN S i d) (I (rI S i 9))) (if ((gM S i) && (gD d) && (gM S i && gD d && gH S i && gN S i d)) = true then I (rI S i 9) else I 0) (gc (gM S i) (gD d) (gM S i && gD d && gH S i && gN S i d)) := by
  have hx := q_drop (i := i) (d := d)  (h.thr 0) (hs.thr 0) ht il ih dl dh
  rw [gM_45, gH_45, gN_45, rI_45] at hx
  have hP := e_drop  (hs.vok ht) il ih dl dh
  have h1 : ((gM S i) && (gD d) && (gM S i && gD d && gH S i && gN S i d)) = true → SI (t + 1) (sDrop (setf S 45 0) i d) := fun g => by
    have g1 := Bool.and_eq_true_iff.mp g
    have g2 := Bool.and_eq_true_iff.mp g1.1
    exact (hs.thr 0).drop ht g2.1
  have h2 : mf (sDrop (setf S 45 0) i d) 45 = 0 := hold_45.trans rfl
  generalize sDrop (setf S 45 0) i d = X at hx hP h1 h2
  exact join hs (by omega) hR hx (sm_X7_drop _ _ _) hP (rfl) h1 (fun _ => h2)
theorem j_add (h : CR sv G S m) (hs : SI t S) (ht : t + 2 ≤ 600) (hR : RM (sv + 20) S m) (il : -2147483648 ≤ i) (ih : i < 2147483648) (dl : -2147483648 ≤ d) (dh : d < 2147483648) : JN sv t (F_X6_add sv (I i) (I d)) (F_X7_add (sv + 20) (I i) (I d)) m (rs3 (gM S i) (gD d) (gM S i && gD d && gH S i && !gN S i d) (I (rI S i 9))) (if ((gM S i) && (gD d) && (gM S i && gD d && gH S i && !gN S i d)) = true then I (rI S i 9) else I 0) (gc (gM S i) (gD d) (gM S i && gD d && gH S i && !gN S i d)) := by
  have hx := q_add (i := i) (d := d)  (h.thr 0) (hs.thr 0) ht il ih dl dh
  rw [gM_45, gH_45, gN_45, rI_45] at hx
  have hP := e_add  (hs.vok ht) il ih dl dh
  have h1 : ((gM S i) && (gD d) && (gM S i && gD d && gH S i && !gN S i d)) = true → SI (t + 1) (sAdd (setf S 45 0) i d) := fun g => by
    have g1 := Bool.and_eq_true_iff.mp g
    have g2 := Bool.and_eq_true_iff.mp g1.1
    exact (hs.thr 0).add ht g2.1 g2.2
  have h2 : mf (sAdd (setf S 45 0) i d) 45 = 0 := hold_45.trans rfl
  generalize sAdd (setf S 45 0) i d = X at hx hP h1 h2
  exact join hs (by omega) hR hx (sm_X7_add _ _ _) hP (rfl) h1 (fun _ => h2)
theorem j_move (h : CR sv G S m) (hs : SI t S) (ht : t + 2 ≤ 600) (hR : RM (sv + 20) S m) (il : -2147483648 ≤ i) (ih : i < 2147483648) (dl : -2147483648 ≤ d) (dh : d < 2147483648) (cl : -2147483648 ≤ c) (ch : c < 2147483648) : JN sv t (F_X6_move sv (I i) (I d) (I c)) (F_X7_move (sv + 20) (I i) (I d) (I c)) m (rs3 (gM S i) (gD d && gC c) (gM S i && (gD d && gC c) && gH S i && gN S i d) (I (rI S i 9))) (if ((gM S i) && (gD d && gC c) && (gM S i && (gD d && gC c) && gH S i && gN S i d)) = true then I (rI S i 9) else I 0) (gc (gM S i) (gD d && gC c) (gM S i && (gD d && gC c) && gH S i && gN S i d)) := by
  have hx := q_move (i := i) (d := d) (c := c)  (h.thr 0) (hs.thr 0) ht il ih dl dh cl ch
  rw [gM_45, gH_45, gN_45, rI_45] at hx
  have hP := e_move  (hs.vok ht) il ih dl dh cl ch
  have h1 : ((gM S i) && (gD d && gC c) && (gM S i && (gD d && gC c) && gH S i && gN S i d)) = true → SI (t + 1) (sMove (setf S 45 0) i d c) := fun g => by
    have g1 := Bool.and_eq_true_iff.mp g
    have g2 := Bool.and_eq_true_iff.mp g1.1
    exact (hs.thr 0).move ht g2.1 (by have q : 0 ≤ c ∧ c ≤ 1439 := of_decide_eq_true (Bool.and_eq_true_iff.mp g2.2).2; omega)
  have h2 : mf (sMove (setf S 45 0) i d c) 45 = 0 := hold_45.trans rfl
  generalize sMove (setf S 45 0) i d c = X at hx hP h1 h2
  exact join hs (by omega) hR hx (sm_X7_move _ _ _ _) hP (rfl) h1 (fun _ => h2)
theorem j_cancel (h : CR sv G S m) (hs : SI t S) (ht : t + 2 ≤ 600) (hR : RM (sv + 20) S m) (il : -2147483648 ≤ i) (ih : i < 2147483648) : JN sv t (F_X6_cancel sv (I i)) (F_X7_cancel (sv + 20) (I i)) m (rs3 (gM S i) (true) (gH S i) (I (rI S i 9))) (if ((gM S i) && (true) && (gH S i)) = true then I (rI S i 9) else I 0) (gc (gM S i) (gH S i) (true)) := by
  have hx := q_cancel (i := i)  (h.thr 0) (hs.thr 0) ht il ih
  rw [gM_45, gH_45, rI_45] at hx
  have hP := e_cancel  (hs.vok ht) il ih
  have h1 : ((gM S i) && (true) && (gH S i)) = true → SI (t + 1) (sCancel (setf S 45 0) i) := fun g => by
    have g1 := Bool.and_eq_true_iff.mp g
    have g2 := Bool.and_eq_true_iff.mp g1.1
    exact (hs.thr 0).cancel ht g2.1
  have h2 : mf (sCancel (setf S 45 0) i) 45 = 0 := hold_45.trans rfl
  generalize sCancel (setf S 45 0) i = X at hx hP h1 h2
  exact join hs (by omega) hR hx (sm_X7_cancel _ _) hP (by cases gM S i <;> cases gH S i <;> rfl) h1 (fun _ => h2)
theorem j_invite (b : Bool) (h : CR sv G S m) (hs : SI t S) (ht : t + 2 ≤ 600) (hR : RM (sv + 20) S m) (il : -2147483648 ≤ i) (ih : i < 2147483648) (pl : -2147483648 ≤ p) (ph : p < 2147483648) : JN sv t (F_X6_invite sv (I i) (I p) (b2i b)) (F_X7_invite (sv + 20) (I i) (I p) (b2i b)) m (rs3 (gM S i && gP p) (gM S i && gP p && decide (¬ ma S 4 i = p)) (gM S i && gP p && gH S i && !gS S i p b) (I (rI S i 9))) (if ((gM S i && gP p) && (gM S i && gP p && decide (¬ ma S 4 i = p)) && (gM S i && gP p && gH S i && !gS S i p b)) = true then I (rI S i 9) else I 0) (gc (gM S i && gP p) (gM S i && gP p && decide (¬ ma S 4 i = p)) (gM S i && gP p && gH S i && !gS S i p b)) := by
  have hx := q_invite (i := i) (p := p) b (h.thr 0) (hs.thr 0) ht il ih pl ph
  rw [gM_45, gH_45, gS_45, ma_45, rI_45] at hx
  have hP := e_invite b (hs.vok ht) il ih pl ph
  have h1 : ((gM S i && gP p) && (gM S i && gP p && decide (¬ ma S 4 i = p)) && (gM S i && gP p && gH S i && !gS S i p b)) = true → SI (t + 1) (sInvite (setf S 45 0) i p b) := fun g => by
    have g1 := Bool.and_eq_true_iff.mp g
    have g2 := Bool.and_eq_true_iff.mp g1.1
    exact (hs.thr 0).invite b ht (Bool.and_eq_true_iff.mp g2.1).1 (Bool.and_eq_true_iff.mp g2.1).2 (of_decide_eq_true (Bool.and_eq_true_iff.mp g2.2).2)
  have h2 : mf (sInvite (setf S 45 0) i p b) 45 = 0 := hold_45.trans rfl
  generalize sInvite (setf S 45 0) i p b = X at hx hP h1 h2
  exact join hs (by omega) hR hx (sm_X7_invite _ _ _ _) hP (rfl) h1 (fun _ => h2)
end C50
