/-! other pairs of calls -/
section C51
variable {sv : Nat} {G : GM} {S S1 : MS} {m : QM} {t : Int} {i d c s w p z o a b l k : Int}
theorem open_45 {x : Int} : isOpenB (setf S 45 x) k = isOpenB S k := id rfl
theorem mf_45 {x : Int} {J : Nat} (h : J ≠ 45) : mf (setf S 45 x) J = mf S J := if_neg h
theorem j_setOffset (h : CR sv G S m) (hs : SI t S) (ht : t + 2 ≤ 600) (hR : RM (sv + 20) S m) (zl : -2147483648 ≤ z) (zh : z < 2147483648) (ol : -2147483648 ≤ o) (oh : o < 2147483648) : JN sv t (F_X6_setOffset sv (I z) (I o)) (F_X7_setOffset (sv + 20) (I z) (I o)) m (rs3 (gZ z) (gI o) (true) (I (ma S 0 z))) (if ((gZ z) && (gI o) && (true)) = true then I (ma S 0 z) else I 0) (gc (gZ z) (gI o) (true)) := by
  have hx := q_setOffset (z := z) (o := o) (h.thr 0) (hs.thr 0)  zl zh ol oh
  rw [ma_45] at hx
  have hP := e_setOffset (z := z) (o := o) hs.wr zl zh ol oh
  have h1 : ((gZ z) && (gI o) && (true)) = true → SI (t + 1) (seta (setf S 45 0) 0 z o) := fun g => by
    have g1 := Bool.and_eq_true_iff.mp g
    have g2 := Bool.and_eq_true_iff.mp g1.1
    have q : -12 ≤ o ∧ o ≤ 12 := of_decide_eq_true g2.2
    exact ((hs.thr 0).setOff q.1 q.2).up (by omega) (by omega)
  have h2 : mf (seta (setf S 45 0) 0 z o) 45 = 0 := rfl
  generalize hX : seta (setf S 45 0) 0 z o = X at hx hP h1 h2
  exact join hs (by omega) hR hx (sm_X7_setOffset _ _ _) hP (rfl) h1 (fun _ => h2)
theorem j_setSummer (h : CR sv G S m) (hs : SI t S) (ht : t + 2 ≤ 600) (hR : RM (sv + 20) S m) (zl : -2147483648 ≤ z) (zh : z < 2147483648) (al : -2147483648 ≤ a) (ah : a < 2147483648) (bl : -2147483648 ≤ b) (bh : b < 2147483648) : JN sv t (F_X6_setSummer sv (I z) (I a) (I b)) (F_X7_setSummer (sv + 20) (I z) (I a) (I b)) m (rs3 (gZ z) (gSu a b) (true) (I (ma S 1 z))) (if ((gZ z) && (gSu a b) && (true)) = true then I (ma S 1 z) else I 0) (gc (gZ z) (gSu a b) (true)) := by
  have hx := q_setSummer (z := z) (a := a) (b := b) (h.thr 0) (hs.thr 0)  zl zh al ah bl bh
  rw [ma_45] at hx
  have hP := e_setSummer (z := z) (a := a) (b := b) hs.wr zl zh al ah bl bh
  have h1 : ((gZ z) && (gSu a b) && (true)) = true → SI (t + 1) (seta (seta (setf S 45 0) 1 z a) 2 z b) := fun g => by
    have g1 := Bool.and_eq_true_iff.mp g
    have g2 := Bool.and_eq_true_iff.mp g1.1
    exact ((hs.thr 0).setSum g2.2).up (by omega) (by omega)
  have h2 : mf (seta (seta (setf S 45 0) 1 z a) 2 z b) 45 = 0 := rfl
  generalize hX : seta (seta (setf S 45 0) 1 z a) 2 z b = X at hx hP h1 h2
  exact join hs (by omega) hR hx (sm_X7_setSummer _ _ _ _) hP (rfl) h1 (fun _ => h2)
theorem j_make (h : CR sv G S m) (hs : SI t S) (ht : t + 2 ≤ 600) (hR : RM (sv + 20) S m) (pl : -2147483648 ≤ p) (ph : p < 2147483648) (zl : -2147483648 ≤ z) (zh : z < 2147483648) (dl : -2147483648 ≤ d) (dh : d < 2147483648) (cl : -2147483648 ≤ c) (ch : c < 2147483648) (ll : -2147483648 ≤ l) (lh : l < 2147483648) : JN sv t (F_X6_make sv (I p) (I z) (I d) (I c) (I l)) (F_X7_make (sv + 20) (I p) (I z) (I d) (I c) (I l)) m (rs3 (gP p && gZ z) (gT d c l) (decide (mf S 3 < 8)) (I (mf S 3))) (if ((gP p && gZ z) && (gT d c l) && (decide (mf S 3 < 8))) = true then I (mf S 3) else I 0) (gc (gP p && gZ z) (gT d c l) (decide (mf S 3 < 8))) := by
  have hx := q_make (p := p) (z := z) (d := d) (c := c) (l := l) (h.thr 0) (hs.thr 0) ht pl ph zl zh dl dh cl ch ll lh
  rw [mf_45 (by decide)] at hx
  have hP := e_make (p := p) (z := z) (d := d) (c := c) (l := l) (hs.vok ht) (fun q => hs.nvm q) pl ph zl zh dl dh cl ch ll lh
  have h1 : ((gP p && gZ z) && (gT d c l) && (decide (mf S 3 < 8))) = true → SI (t + 1) (sMake (setf S 45 0) p z d c l) := fun g => by
    have g1 := Bool.and_eq_true_iff.mp g
    have g2 := Bool.and_eq_true_iff.mp g1.1
    exact (hs.thr 0).make ht g2.1 g2.2 (of_decide_eq_true g1.2)
  have h2 : mf (sMake (setf S 45 0) p z d c l) 45 = 0 := hold_45.trans rfl
  generalize hX : sMake (setf S 45 0) p z d c l = X at hx hP h1 h2
  exact join hs (by omega) hR hx (sm_X7_make _ _ _ _ _ _) hP (rfl) h1 (fun _ => h2)
theorem j_take (h : CR sv G S m) (hs : SI t S) (ht : t + 2 ≤ 600) (hR : RM (sv + 20) S m) (kl : -2147483648 ≤ k) (kh : k < 2147483648) : JN sv t (F_X6_take sv (I k)) (F_X7_take (sv + 20) (I k)) m (rs3 (gK S k) (true) (isOpenB S k) (I (rI S (ma S 34 k) 9))) (if ((gK S k) && (true) && (isOpenB S k)) = true then I (rI S (ma S 34 k) 9) else I 0) (gc (gK S k) (gK S k && isOpenB S k) (true)) := by
  have hx := q_take (k := k) (h.thr 0) (hs.thr 0) ht kl kh
  rw [gK_45, open_45, ma_45, rI_45] at hx
  have hP := e_take (k := k) (hs.vok ht) hs.mq kl kh
  have h1 : ((gK S k) && (true) && (isOpenB S k)) = true → SI (t + 1) (sTake (setf S 45 0) k) := fun g => by
    have g1 := Bool.and_eq_true_iff.mp g
    have g2 := Bool.and_eq_true_iff.mp g1.1
    exact (hs.thr 0).take ht g2.1
  have h2 : mf (sTake (setf S 45 0) k) 45 = 0 := hold_45.trans rfl
  generalize hX : sTake (setf S 45 0) k = X at hx hP h1 h2
  exact join hs (by omega) hR hx (sm_X7_take _ _) hP (by cases gK S k <;> cases isOpenB S k <;> rfl) h1 (fun _ => h2)
end C51
