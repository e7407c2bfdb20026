/-! the rest of the pairs of questions, without the lines -/
section C58
variable {sv : Nat} {G : GM} {S S1 : MS} {m : QM} {t : Int} {i d c w p z k a f l place people : Int}
theorem rkD_45 {x : Int} {m0 : Int} : ∀ j, rkD (setf S 45 x) p i w m0 j = rkD S p i w m0 j := by
  have e : EQ44 (setf S 45 x) S := EQ44.e44
  intro j
  induction j with
  | zero => rfl
  | succ j ih =>
    have h1 : takesH (setf S 45 x) p i j w = takesH S p i j w := by unfold takesH; rw [begOf_44 e, verOf_44 e, e.1 13 (by decide)]
    unfold rkD
    rw [ih, datOf_44 e, rankFor_44 e, h1]
theorem rkM_45 {x : Int} : ∀ j, rkM (setf S 45 x) p w j = rkM S p w j := by
  intro j
  induction j with
  | zero => rfl
  | succ j ih =>
    show rkD (setf S 45 x) p j w (rkM (setf S 45 x) p w j) 60 = rkD S p j w (rkM S p w j) 60
    rw [ih, rkD_45]
theorem j_dates (h : CR sv G S m) (hs : SI t S) (ht : t + 2 ≤ 600) (hR : RM (sv + 20) S m) (pl : -2147483648 ≤ p) (ph : p < 2147483648) (il : -2147483648 ≤ i) (ih : i < 2147483648) : JN sv t (F_X6_dates sv (I p) (I i)) (F_X7_dates (sv + 20) (I p) (I i)) m (rs3 (gPM S p i) true true (I (cnt (hl (datOf S p i)) 60))) (if (gPM S p i) = true then I (cnt (hl (datOf S p i)) 60) else I 0) (gc (gPM S p i) true true) :=
  joinQ hs (by omega) hR (q_dates h hs pl ph il ih) (sm_X7_dates _ _ _) (q3 (e_dates hs.wr pl ph il ih))
theorem j_dateAt (h : CR sv G S m) (hs : SI t S) (ht : t + 2 ≤ 600) (hR : RM (sv + 20) S m) (pl : -2147483648 ≤ p) (ph : p < 2147483648) (il : -2147483648 ≤ i) (ih : i < 2147483648) (placel : -2147483648 ≤ place) (placeh : place < 2147483648) : JN sv t (F_X6_dateAt sv (I p) (I i) (I place)) (F_X7_dateAt (sv + 20) (I p) (I i) (I place)) m (rs3 (gPM S p i && decide (0 ≤ place ∧ place < cnt (hl (datOf S p i)) 60)) true true (I (nth (hl (datOf S p i)) place 60))) (if (gPM S p i && decide (0 ≤ place ∧ place < cnt (hl (datOf S p i)) 60)) = true then I (nth (hl (datOf S p i)) place 60) else I 0) (gc (gPM S p i && decide (0 ≤ place ∧ place < cnt (hl (datOf S p i)) 60)) true true) :=
  joinQ hs (by omega) hR (q_dateAt h hs pl ph il ih placel placeh) (sm_X7_dateAt _ _ _ _) (q3 (e_dateAt hs.wr pl ph il ih placel placeh))
theorem j_begin (h : CR sv G S m) (hs : SI t S) (ht : t + 2 ≤ 600) (hR : RM (sv + 20) S m) (pl : -2147483648 ≤ p) (ph : p < 2147483648) (il : -2147483648 ≤ i) (ih : i < 2147483648) (dl : -2147483648 ≤ d) (dh : d < 2147483648) : JN sv t (F_X6_begin sv (I p) (I i) (I d)) (F_X7_begin (sv + 20) (I p) (I i) (I d)) m (rs3 (gPM S p i) (gD d) (gPD S p i d) (I (begOf S (verOf S p i) d))) (if (gPM S p i && gD d && gPD S p i d) = true then I (begOf S (verOf S p i) d) else I 0) (gc (gPM S p i) (gD d) (gPD S p i d)) :=
  joinQ hs (by omega) hR (q_begin h hs pl ph il ih dl dh) (sm_X7_begin _ _ _ _) (q2 (e_begin hs.wr pl ph il ih dl dh))
theorem j_ownAnswer (h : CR sv G S m) (hs : SI t S) (ht : t + 2 ≤ 600) (hR : RM (sv + 20) S m) (pl : -2147483648 ≤ p) (ph : p < 2147483648) (il : -2147483648 ≤ i) (ih : i < 2147483648) (dl : -2147483648 ≤ d) (dh : d < 2147483648) : JN sv t (F_X6_ownAnswer sv (I p) (I i) (I d)) (F_X7_ownAnswer (sv + 20) (I p) (I i) (I d)) m (rs3 (gPM S p i) (gD d) (gPD S p i d) (I (ownOf S p i d))) (if (gPM S p i && gD d && gPD S p i d) = true then I (ownOf S p i d) else I 0) (gc (gPM S p i) (gD d) (gPD S p i d)) :=
  joinQ hs (by omega) hR (q_ownAnswer h hs pl ph il ih dl dh) (sm_X7_ownAnswer _ _ _ _) (q2 (e_ownAnswer hs.wr pl ph il ih dl dh))
theorem j_isAsked (h : CR sv G S m) (hs : SI t S) (ht : t + 2 ≤ 600) (hR : RM (sv + 20) S m) (il : -2147483648 ≤ i) (ih : i < 2147483648) (pl : -2147483648 ≤ p) (ph : p < 2147483648) : JN sv t (F_X6_isAsked sv (I i) (I p)) (F_X7_isAsked (sv + 20) (I i) (I p)) m (rs3 (gPM S p i) true true (b2i (hb (asked S i) p))) (if (gPM S p i) = true then b2i (hb (asked S i) p) else b2i false) (gc (gPM S p i) true true) :=
  joinQ hs (by omega) hR (q_isAsked h hs pl ph il ih) (sm_X7_isAsked _ _ _) (q3 (e_isAsked hs.wr pl ph il ih))
theorem j_answerOf (h : CR sv G S m) (hs : SI t S) (ht : t + 2 ≤ 600) (hR : RM (sv + 20) S m) (il : -2147483648 ≤ i) (ih : i < 2147483648) (pl : -2147483648 ≤ p) (ph : p < 2147483648) (dl : -2147483648 ≤ d) (dh : d < 2147483648) : JN sv t (F_X6_answerOf sv (I i) (I p) (I d)) (F_X7_answerOf (sv + 20) (I i) (I p) (I d)) m (rs3 (gPM S p i) (gD d) (gND S p i d) (I (ansOf S i p d))) (if (gPM S p i && gD d && gND S p i d) = true then I (ansOf S i p d) else I 0) (gc (gPM S p i) (gD d) (gND S p i d)) :=
  joinQ hs (by omega) hR (q_answerOf h hs pl ph il ih dl dh) (sm_X7_answerOf _ _ _ _) (q2 (e_answerOf hs.wr pl ph il ih dl dh))
theorem j_answerByLog (h : CR sv G S m) (hs : SI t S) (ht : t + 2 ≤ 600) (hR : RM (sv + 20) S m) (il : -2147483648 ≤ i) (ih : i < 2147483648) (pl : -2147483648 ≤ p) (ph : p < 2147483648) (dl : -2147483648 ≤ d) (dh : d < 2147483648) : JN sv t (F_X6_answerByLog sv (I i) (I p) (I d)) (F_X7_answerByLog (sv + 20) (I i) (I p) (I d)) m (rs3 (gPM S p i) (gD d) (gND S p i d) (I (ansOf S i p d))) (if (gPM S p i && gD d && gND S p i d) = true then I (ansOf S i p d) else I 0) (gc (gPM S p i) (gD d) (gND S p i d)) :=
  joinQ hs (by omega) hR (q_answerByLog h hs pl ph il ih dl dh) (sm_X7_answerByLog _ _ _ _) (q2 ((show P_X7_answerByLog (I i) (I p) (I d) S = _ from e_answerOf hs.wr pl ph il ih dl dh)))
theorem j_agrees (h : CR sv G S m) (hs : SI t S) (ht : t + 2 ≤ 600) (hR : RM (sv + 20) S m) (il : -2147483648 ≤ i) (ih : i < 2147483648) : JN sv t (F_X6_agrees sv (I i)) (F_X7_agrees (sv + 20) (I i)) m (rs3 (gM S i) true true (b2i (agreesB S i))) (if (gM S i) = true then b2i (agreesB S i) else b2i false) (gc (gM S i) true true) :=
  joinQ hs (by omega) hR (q_agrees h hs il ih) (sm_X7_agrees _ _) (q3 (e_agrees hs.wr il ih))
theorem j_proposals (h : CR sv G S m) (hs : SI t S) (ht : t + 2 ≤ 600) (hR : RM (sv + 20) S m) (il : -2147483648 ≤ i) (ih : i < 2147483648) : JN sv t (F_X6_proposals sv (I i)) (F_X7_proposals (sv + 20) (I i)) m (rs3 (gM S i) true true (I (opens S i))) (if (gM S i) = true then I (opens S i) else I 0) (gc (gM S i) true true) :=
  joinQ hs (by omega) hR (q_proposals h hs il ih) (sm_X7_proposals _ _) (q3 (e_proposals hs.wr hs.mq il ih))
theorem j_proposalAt (h : CR sv G S m) (hs : SI t S) (ht : t + 2 ≤ 600) (hR : RM (sv + 20) S m) (il : -2147483648 ≤ i) (ih : i < 2147483648) (placel : -2147483648 ≤ place) (placeh : place < 2147483648) : JN sv t (F_X6_proposalAt sv (I i) (I place)) (F_X7_proposalAt (sv + 20) (I i) (I place)) m (rs3 (gM S i && decide (0 ≤ place ∧ place < opens S i)) true true (I (nth (opC S i) place (mf S 29).toNat))) (if (gM S i && decide (0 ≤ place ∧ place < opens S i)) = true then I (nth (opC S i) place (mf S 29).toNat) else I 0) (gc (gM S i && decide (0 ≤ place ∧ place < opens S i)) true true) :=
  joinQ hs (by omega) hR (q_proposalAt h hs il ih placel placeh) (sm_X7_proposalAt _ _ _) (q3 (e_proposalAt hs.wr hs.mq il ih placel placeh))
theorem j_rank (h : CR sv G S m) (hs : SI t S) (ht : t + 2 ≤ 600) (hR : RM (sv + 20) S m) (pl : -2147483648 ≤ p) (ph : p < 2147483648) (wl : -2147483648 ≤ w) (wh : w < 2147483648) : JN sv t (F_X6_rank sv (I p) (I w)) (F_X7_rank (sv + 20) (I p) (I w)) m (rs3 (gP p) (gW w) (true) (I (rkM S p w (mf S 3).toNat))) (if (gP p && gW w && true) = true then I (rkM S p w (mf S 3).toNat) else I 0) (gc (gP p) (gW w) (true)) :=
  joinQ hs (by omega) hR (q_rank h hs pl ph wl wh) (sm_X7_rank _ _ _) (q2 (by have e1 := e_rank hs.wr pl ph wl wh; rw [rkM_45] at e1; exact e1))
theorem j_mark (h : CR sv G S m) (hs : SI t S) (ht : t + 2 ≤ 600) (hR : RM (sv + 20) S m) (pl : -2147483648 ≤ p) (ph : p < 2147483648) : JN sv t (F_X6_mark sv (I p)) (F_X7_mark (sv + 20) (I p)) m (rs3 (gP p) true true (I (ma S 27 p))) (if (gP p) = true then I (ma S 27 p) else I 0) (gc (gP p) true true) :=
  joinQ hs (by omega) hR (q_mark h pl ph) (sm_X7_mark _ _) (q3 (e_mark hs.wr pl ph))
theorem j_changes (h : CR sv G S m) (hs : SI t S) (ht : t + 2 ≤ 600) (hR : RM (sv + 20) S m) (pl : -2147483648 ≤ p) (ph : p < 2147483648) (al : -2147483648 ≤ a) (ah : a < 2147483648) : JN sv t (F_X6_changes sv (I p) (I a)) (F_X7_changes (sv + 20) (I p) (I a)) m (rs3 (gP p) (gMk S p a) (gFl S p a) (I (cnt (abC S p a) (mf S 3).toNat))) (if (gP p && gMk S p a && gFl S p a) = true then I (cnt (abC S p a) (mf S 3).toNat) else I 0) (gc (gP p) (gMk S p a) (gFl S p a)) :=
  joinQ hs (by omega) hR (q_changes h hs pl ph al ah) (sm_X7_changes _ _ _) (q2 (e_changes hs.wr pl ph al ah))
theorem j_changeAt (h : CR sv G S m) (hs : SI t S) (ht : t + 2 ≤ 600) (hR : RM (sv + 20) S m) (pl : -2147483648 ≤ p) (ph : p < 2147483648) (al : -2147483648 ≤ a) (ah : a < 2147483648) (placel : -2147483648 ≤ place) (placeh : place < 2147483648) : JN sv t (F_X6_changeAt sv (I p) (I a) (I place)) (F_X7_changeAt (sv + 20) (I p) (I a) (I place)) m (if (gP p && gMk S p a && gFl S p a) = true then rs3 (decide (0 ≤ place ∧ place < cnt (abC S p a) (mf S 3).toNat)) true true (I (lastTo (chgC S p a place) (mf S 3).toNat)) else rs3 (gP p) (gMk S p a) (gFl S p a) (I 0)) (if (gP p && gMk S p a && gFl S p a) = true then (if 0 ≤ place ∧ place < cnt (abC S p a) (mf S 3).toNat then I (lastTo (chgC S p a place) (mf S 3).toNat) else I 0) else I 0) (if (gP p && gMk S p a && gFl S p a) = true then (if 0 ≤ place ∧ place < cnt (abC S p a) (mf S 3).toNat then 0 else 1) else gc (gP p) (gMk S p a) (gFl S p a)) := by
  refine joinQ hs (by omega) hR (q_changeAt h hs pl ph al ah placel placeh) (sm_X7_changeAt _ _ _ _) ((e_changeAt hs.wr pl ph al ah placel placeh).trans ?_)
  have e2 : ∀ u v : Int, setf (setf S 45 u) 45 v = setf S 45 v := fun u v => by
    have q : (fun J => if J = 45 then v else (if J = 45 then u else mf S J)) = fun J => if J = 45 then v else mf S J := by funext J; by_cases q : J = 45 <;> simp [q]
    show (S.1, S.2.1, fun J => if J = 45 then v else (if J = 45 then u else mf S J)) = (S.1, S.2.1, fun J => if J = 45 then v else mf S J)
    rw [q]
  rw [e2, e2]
  split
  · split <;> rfl
  · rfl
theorem j_firstFree (h : CR sv G S m) (hs : SI t S) (ht : t + 2 ≤ 600) (hR : RM (sv + 20) S m) (peoplel : -2147483648 ≤ people) (peopleh : people < 2147483648) (fl : -2147483648 ≤ f) (fh : f < 2147483648) (ll : -2147483648 ≤ l) (lh : l < 2147483648) : if gF people f l = true then ∃ r, JN sv t (F_X6_firstFree sv (I people) (I f) (I l)) (F_X7_firstFree (sv + 20) (I people) (I f) (I l)) m (.ok (I r)) (I r) 0 else JN sv t (F_X6_firstFree sv (I people) (I f) (I l)) (F_X7_firstFree (sv + 20) (I people) (I f) (I l)) m (.error 2) (I 0) 1 := by
  have hx := q_firstFree h hs peoplel peopleh fl fh ll lh
  have hP := e_firstFree hs.wr peoplel peopleh fl fh ll lh
  by_cases g : gF people f l = true
  · rw [if_pos g] at hx hP ⊢
    obtain ⟨r, ⟨G', m1, e1, c1, k1⟩, i1⟩ := hx
    obtain ⟨r', p1, i2, _⟩ := hP
    have er := isFF_one i1 i2
    subst er
    have e0 : EQ44 (setB (setf S 45 0) (bsy (setf S 45 0) people)) (setf S 45 0) := eq_setB _ _
    have hy := fun m9 h9 => sm_X7_firstFree (sv + 20) (I people) (I f) (I l) S m9 _ _ h9 (show P_X7_firstFree (I people) (I f) (I l) S = _ from p1)
    have h45 : mf (setB (setf S 45 0) (bsy (setf S 45 0) people)) 45 = 0 := rfl
    generalize setB (setf S 45 0) (bsy (setf S 45 0) people) = X at e0 hy h45
    exact ⟨r, G', X, m1, S, e1, k1, (c1.thr 0).e44 e0, ((hs.up (by omega) (by omega)).thr 0).e44 e0, h45, hR.kp k1, hy⟩
  · rw [if_neg g] at hx hP ⊢
    exact joinQ hs (by omega) hR hx (sm_X7_firstFree _ _ _ _) (show P_X7_firstFree (I people) (I f) (I l) S = _ from hP)
theorem j_firstFreeByHours (h : CR sv G S m) (hs : SI t S) (ht : t + 2 ≤ 600) (hR : RM (sv + 20) S m) (peoplel : -2147483648 ≤ people) (peopleh : people < 2147483648) (fl : -2147483648 ≤ f) (fh : f < 2147483648) (ll : -2147483648 ≤ l) (lh : l < 2147483648) : if gF people f l = true then ∃ r, JN sv t (F_X6_firstFreeByHours sv (I people) (I f) (I l)) (F_X7_firstFreeByHours (sv + 20) (I people) (I f) (I l)) m (.ok (I r)) (I r) 0 else JN sv t (F_X6_firstFreeByHours sv (I people) (I f) (I l)) (F_X7_firstFreeByHours (sv + 20) (I people) (I f) (I l)) m (.error 2) (I 0) 1 := by
  have hx := q_firstFreeByHours h hs peoplel peopleh fl fh ll lh
  have hP := e_firstFree hs.wr peoplel peopleh fl fh ll lh
  by_cases g : gF people f l = true
  · rw [if_pos g] at hx hP ⊢
    obtain ⟨r, ⟨G', m1, e1, c1, k1⟩, i1⟩ := hx
    obtain ⟨r', p1, i2, _⟩ := hP
    have er := isFF_one i1 i2
    subst er
    have e0 : EQ44 (setB (setf S 45 0) (bsy (setf S 45 0) people)) (setf S 45 0) := eq_setB _ _
    have hy := fun m9 h9 => sm_X7_firstFreeByHours (sv + 20) (I people) (I f) (I l) S m9 _ _ h9 (show P_X7_firstFreeByHours (I people) (I f) (I l) S = _ from p1)
    have h45 : mf (setB (setf S 45 0) (bsy (setf S 45 0) people)) 45 = 0 := rfl
    generalize setB (setf S 45 0) (bsy (setf S 45 0) people) = X at e0 hy h45
    exact ⟨r, G', X, m1, S, e1, k1, (c1.thr 0).e44 e0, ((hs.up (by omega) (by omega)).thr 0).e44 e0, h45, hR.kp k1, hy⟩
  · rw [if_neg g] at hx hP ⊢
    exact joinQ hs (by omega) hR hx (sm_X7_firstFreeByHours _ _ _ _) (show P_X7_firstFreeByHours (I people) (I f) (I l) S = _ from hP)
end C58
