/-! pairs of calls: delegates -/
section C55
variable {sv : Nat} {G : GM} {S S1 : MS} {m : QM} {t : Int} {i d c s w p z o a b l k : Int}
theorem j_delegate (h : CR sv G S m) (hs : SI t S) (ht : t + 2 ≤ 600) (hR : RM (sv + 20) S m) (pl : -2147483648 ≤ p) (ph : p < 2147483648) (il : -2147483648 ≤ i) (ih : i < 2147483648) (ol : -2147483648 ≤ o) (oh : o < 2147483648) : JN sv t (F_X6_delegate sv (I p) (I i) (I o)) (F_X7_delegate (sv + 20) (I p) (I i) (I o)) m (rs3 (gP p && gM S i && gP o) (gP p && gM S i && gP o && gO S p i o) (gP p && gM S i && gP o && gHC S p i && decide (mf S 29 + 2 ≤ 150)) (I (mf S 29))) (if ((gP p && gM S i && gP o) && (gP p && gM S i && gP o && gO S p i o) && (gP p && gM S i && gP o && gHC S p i && decide (mf S 29 + 2 ≤ 150))) = true then I (mf S 29) else I 0) (gc (gP p && gM S i && gP o) (gP p && gM S i && gP o && gO S p i o) (gP p && gM S i && gP o && gHC S p i && decide (mf S 29 + 2 ≤ 150))) := by
  have hx := q_delegate (p := p) (i := i) (o := o) (h.thr 0) (hs.thr 0) ht pl ph il ih ol oh
  rw [gM_45, gHC_45, gO_45, mf_45 (by decide)] at hx
  have hP := e_delegate (p := p) (i := i) (o := o) hs.wr (by omega) hs.fr hs.mq.1 pl ph il ih ol oh
  have h1 : ((gP p && gM S i && gP o) && (gP p && gM S i && gP o && gO S p i o) && (gP p && gM S i && gP o && gHC S p i && decide (mf S 29 + 2 ≤ 150))) = true → SI (t + 1) (sDel (setf S 45 0) p i o) := fun g => by
    have g1 := Bool.and_eq_true_iff.mp g
    have g2 := Bool.and_eq_true_iff.mp g1.1
    have g3 := Bool.and_eq_true_iff.mp g1.2
    have g4 := Bool.and_eq_true_iff.mp g3.1
    have g5 := Bool.and_eq_true_iff.mp g2.1
    have g6 := Bool.and_eq_true_iff.mp g5.1
    have qp := gP_d g6.1
    have qo := gP_d g5.2
    have q := gM_d g6.2
    have hc := hc_d hs.wr qp.1 qp.2 q.1 q.2 g4.2
    have q5 : mf S 29 + 2 ≤ 150 := of_decide_eq_true g3.2
    have qg := (Bool.and_eq_true_iff.mp g2.2).2
    unfold gO at qg
    exact (hs.thr 0).del ht q5 qp.1 qp.2 q.1 q.2 hc.2.1 qo.1 qo.2 (of_decide_eq_true (Bool.and_eq_true_iff.mp qg).2)
  have h2 : mf (sDel (setf S 45 0) p i o) 45 = 0 := by unfold sDel; rw [sReq_mf, if_neg (by decide), mf_seta, rep_f]; rfl
  generalize hX : sDel (setf S 45 0) p i o = X at hx hP h1 h2
  exact join hs (by omega) hR hx (sm_X7_delegate _ _ _ _) hP (rfl) h1 (fun _ => h2)
end C55
