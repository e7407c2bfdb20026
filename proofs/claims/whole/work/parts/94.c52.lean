/-! pairs of calls on messages -/
section C52
variable {sv : Nat} {G : GM} {S S1 : MS} {m : QM} {t : Int} {i d c s w p z o a b l k : Int}
theorem gHC_45 {x : Int} : gHC (setf S 45 x) p i = gHC S p i := id rfl
theorem gCD_45 {x : Int} : gCD (setf S 45 x) p i d = gCD S p i d := id rfl
theorem j_refuse (h : CR sv G S m) (hs : SI t S) (ht : t + 2 ≤ 600) (hR : RM (sv + 20) S m) (kl : -2147483648 ≤ k) (kh : k < 2147483648) : JN sv t (F_X6_refuse sv (I k)) (F_X7_refuse (sv + 20) (I k)) m (rs3 (gK S k) (true) (isOpenB S k) (I (opens (seta (setf S 45 0) 43 k 1) (ma S 34 k)))) (if ((gK S k) && (true) && (isOpenB S k)) = true then I (opens (seta (setf S 45 0) 43 k 1) (ma S 34 k)) else I 0) (gc (gK S k) (gK S k && isOpenB S k) (true)) := by
  have hx := q_refuse (k := k) (h.thr 0) (hs.thr 0)  kl kh
  rw [gK_45, open_45, ma_45] at hx
  have hP := e_refuse (k := k) hs.wr hs.mq kl kh
  have h1 : ((gK S k) && (true) && (isOpenB S k)) = true → SI (t + 1) (seta (setf S 45 0) 43 k 1) := fun g => by
    have g1 := Bool.and_eq_true_iff.mp g
    have g2 := Bool.and_eq_true_iff.mp g1.1
    exact ((hs.thr 0).set43 (gK_d g2.1).2).up (by omega) (by omega)
  have h2 : mf (seta (setf S 45 0) 43 k 1) 45 = 0 := rfl
  generalize hX : seta (setf S 45 0) 43 k 1 = X at hx hP h1 h2
  exact join hs (by omega) hR hx (sm_X7_refuse _ _) hP (by cases gK S k <;> cases isOpenB S k <;> rfl) h1 (fun _ => h2)
theorem j_propose (h : CR sv G S m) (hs : SI t S) (ht : t + 2 ≤ 600) (hR : RM (sv + 20) S m) (pl : -2147483648 ≤ p) (ph : p < 2147483648) (il : -2147483648 ≤ i) (ih : i < 2147483648) (dl : -2147483648 ≤ d) (dh : d < 2147483648) (cl : -2147483648 ≤ c) (ch : c < 2147483648) : JN sv t (F_X6_propose sv (I p) (I i) (I d) (I c)) (F_X7_propose (sv + 20) (I p) (I i) (I d) (I c)) m (rs3 (gP p && gM S i) (gD d && gC c) (gP p && gM S i && (gD d && gC c) && gHC S p i && gCD S p i d && decide (mf S 29 < 150)) (I (mf S 29))) (if ((gP p && gM S i) && (gD d && gC c) && (gP p && gM S i && (gD d && gC c) && gHC S p i && gCD S p i d && decide (mf S 29 < 150))) = true then I (mf S 29) else I 0) (gc (gP p && gM S i) (gD d && gC c) (gP p && gM S i && (gD d && gC c) && gHC S p i && gCD S p i d && decide (mf S 29 < 150))) := by
  have hx := q_propose (p := p) (i := i) (d := d) (c := c) (h.thr 0) (hs.thr 0)  pl ph il ih dl dh cl ch
  rw [gM_45, gHC_45, gCD_45, mf_45 (by decide)] at hx
  have hP := e_propose (p := p) (i := i) (d := d) (c := c) hs.wr pl ph il ih dl dh cl ch
  have h1 : ((gP p && gM S i) && (gD d && gC c) && (gP p && gM S i && (gD d && gC c) && gHC S p i && gCD S p i d && decide (mf S 29 < 150))) = true → SI (t + 1) (sProp (setf S 45 0) p i d c) := fun g => by
    have g1 := Bool.and_eq_true_iff.mp g
    have g2 := Bool.and_eq_true_iff.mp g1.1
    have g3 := Bool.and_eq_true_iff.mp g1.2
    have g4 := Bool.and_eq_true_iff.mp (Bool.and_eq_true_iff.mp g3.1).1
    have qp := gP_d (Bool.and_eq_true_iff.mp g2.1).1
    have q := gM_d (Bool.and_eq_true_iff.mp g2.1).2
    have qd := gD_d (Bool.and_eq_true_iff.mp g2.2).1
    have qc : 0 ≤ c ∧ c ≤ 1439 := of_decide_eq_true (Bool.and_eq_true_iff.mp g2.2).2
    have hc := hc_d hs.wr qp.1 qp.2 q.1 q.2 g4.2
    have q5 : mf S 29 < 150 := of_decide_eq_true g3.2
    exact ((hs.thr 0).prop q5 qp.1 qp.2 q.1 q.2 hc.2.1 qd.1 qd.2 qc.1 (by omega)).up (by omega) (by omega)
  have h2 : mf (sProp (setf S 45 0) p i d c) 45 = 0 := rfl
  generalize hX : sProp (setf S 45 0) p i d c = X at hx hP h1 h2
  exact join hs (by omega) hR hx (sm_X7_propose _ _ _ _ _) hP (rfl) h1 (fun _ => h2)
end C52
