/-! pairs of calls: answers, delegates, sending -/
section C53
variable {sv : Nat} {G : GM} {S S1 : MS} {m : QM} {t : Int} {i d c s w p z o a b l k : Int}
theorem gO_45 {x : Int} : gO (setf S 45 x) p i o = gO S p i o := id rfl
theorem sset_45 {x : Int} : sendSet (setf S 45 x) i = sendSet S i := by
  have e : asked (setf S 45 x) i = asked S i := askAll_ma (S := S) (S' := setf S 45 x) rfl rfl i _ 5
  unfold sendSet
  rw [e]; rfl
theorem j_answer (h : CR sv G S m) (hs : SI t S) (ht : t + 2 ≤ 600) (hR : RM (sv + 20) S m) (pl : -2147483648 ≤ p) (ph : p < 2147483648) (il : -2147483648 ≤ i) (ih : i < 2147483648) (dl : -2147483648 ≤ d) (dh : d < 2147483648) (wl : -2147483648 ≤ w) (wh : w < 2147483648) : JN sv t (F_X6_answer sv (I p) (I i) (I d) (I w)) (F_X7_answer (sv + 20) (I p) (I i) (I d) (I w)) m (rs3 (gP p && gM S i) (gA d w) (gP p && gM S i && gA d w && gHC S p i && (decide (d = -1) || gCD S p i d) && decide (mf S 29 < 150)) (I (mf S 29))) (if ((gP p && gM S i) && (gA d w) && (gP p && gM S i && gA d w && gHC S p i && (decide (d = -1) || gCD S p i d) && decide (mf S 29 < 150))) = true then I (mf S 29) else I 0) (gc (gP p && gM S i) (gA d w) (gP p && gM S i && gA d w && gHC S p i && (decide (d = -1) || gCD S p i d) && decide (mf S 29 < 150))) := by
  have hx := q_answer (p := p) (i := i) (d := d) (w := w) (h.thr 0) (hs.thr 0) ht pl ph il ih dl dh wl wh
  rw [gM_45, gHC_45, gCD_45, mf_45 (by decide)] at hx
  have hP := e_answer (p := p) (i := i) (d := d) (w := w) hs.wr (by omega) hs.fr hs.mq.1 pl ph il ih dl dh wl wh
  have h1 : ((gP p && gM S i) && (gA d w) && (gP p && gM S i && gA d w && gHC S p i && (decide (d = -1) || gCD S p i d) && decide (mf S 29 < 150))) = true → SI (t + 1) (sRep (setf S 45 0) p i d w) := fun g => by
    have g1 := Bool.and_eq_true_iff.mp g
    have g2 := Bool.and_eq_true_iff.mp g1.1
    have g3 := Bool.and_eq_true_iff.mp g1.2
    have g4 := Bool.and_eq_true_iff.mp (Bool.and_eq_true_iff.mp g3.1).1
    have qp := gP_d (Bool.and_eq_true_iff.mp g2.1).1
    have q := gM_d (Bool.and_eq_true_iff.mp g2.1).2
    have g2' : (d = -1 ∨ (0 ≤ d ∧ d ≤ 59)) ∧ (1 ≤ w ∧ w ≤ 3) := by
      have z := g2.2
      unfold gA at z
      simp only [Bool.and_eq_true, Bool.or_eq_true, decide_eq_true_eq] at z
      exact z
    have hc := hc_d hs.wr qp.1 qp.2 q.1 q.2 g4.2
    have q5 : mf S 29 < 150 := of_decide_eq_true g3.2
    exact (hs.thr 0).rep ht q5 qp.1 qp.2 q.1 q.2 hc.2.1 (by omega) (by omega) (by omega) (by omega)
  have h2 : mf (sRep (setf S 45 0) p i d w) 45 = 0 := (sMarks_f _ _ _ 45).trans rfl
  generalize hX : sRep (setf S 45 0) p i d w = X at hx hP h1 h2
  exact join hs (by omega) hR hx (sm_X7_answer _ _ _ _ _) hP (rfl) h1 (fun _ => h2)
theorem j_send (h : CR sv G S m) (hs : SI t S) (ht : t + 2 ≤ 600) (hR : RM (sv + 20) S m) (il : -2147483648 ≤ i) (ih : i < 2147483648) : JN sv t (F_X6_send sv (I i)) (F_X7_send (sv + 20) (I i)) m (rs3 (gM S i) (true) (decide (mf S 29 + cntB (sendSet S i) 5 ≤ 150)) (I (cntB (sendSet S i) 5))) (if ((gM S i) && (true) && (decide (mf S 29 + cntB (sendSet S i) 5 ≤ 150))) = true then I (cntB (sendSet S i) 5) else I 0) (gc (gM S i) (decide (mf S 29 + cntB (sendSet S i) 5 ≤ 150)) (true)) := by
  have hx := q_send (i := i) (h.thr 0) (hs.thr 0)  il ih
  rw [gM_45, sset_45, mf_45 (by decide)] at hx
  have hP := e_send (i := i) hs.wr hs.fr il ih
  have h1 : ((gM S i) && (true) && (decide (mf S 29 + cntB (sendSet S i) 5 ≤ 150))) = true → SI (t + 1) (sSend (setf S 45 0) i) := fun g => by
    have g1 := Bool.and_eq_true_iff.mp g
    have g2 := Bool.and_eq_true_iff.mp g1.1
    have q5 : mf S 29 + cntB (sendSet S i) 5 ≤ 150 := of_decide_eq_true g1.2
    exact ((hs.thr 0).send g2.1 (by rw [sset_45]; exact q5)).up (by omega) (by omega)
  have h2 : mf (sSend (setf S 45 0) i) 45 = 0 := by
    have key : ∀ n, mf (sSendTo (setf S 45 0) i (sendSet (setf S 45 0) i) n) 45 = 0 := fun n => by
      induction n with
      | zero => rfl
      | succ n ih =>
        show mf (if hb (sendSet (setf S 45 0) i) n = true then sReq (sSendTo (setf S 45 0) i (sendSet (setf S 45 0) i) n) (ma (setf S 45 0) 4 i) n i (ma (setf S 45 0) 5 i) else sSendTo (setf S 45 0) i (sendSet (setf S 45 0) i) n) 45 = 0
        split
        · rw [sReq_mf, if_neg (by decide)]; exact ih
        · exact ih
    exact key 5
  generalize hX : sSend (setf S 45 0) i = X at hx hP h1 h2
  exact join hs (by omega) hR hx (sm_X7_send _ _) hP (by cases gM S i <;> cases decide (mf S 29 + cntB (sendSet S i) 5 ≤ 150) <;> rfl) h1 (fun _ => h2)
end C53
