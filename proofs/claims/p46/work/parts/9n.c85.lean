/-! what the law's own methods change, over the law's state -/
def w_setOffset (p0 p1 : Int32) : LX Int32 := lu 0 (fun S => rs3 (gZ p0.toInt) (gI p1.toInt) (true) (I (ma S 0 p0.toInt))) (fun S => seta S 0 p0.toInt p1.toInt)
theorem E_L_setOffset (sv : Nat) (p0 p1 : Int32) : LMH yL_setOffset cL_setOffset 4 (some .int) [(0, 6, 7, 16), (0, 6, 11, 19)] 9 147 2 12 [.ref sv, .int p0, .int p1] sv (w_setOffset p0 p1) := (E0_L_setOffset sv p0 p1).imp (fun DA mm R hP => by
  obtain ⟨L, hL, h⟩ := hP
  have hs := hL.2.1
  obtain ⟨z0, l0, u0, rfl⟩ := I_of p0; obtain ⟨z1, l1, u1, rfl⟩ := I_of p1
  unfold w_setOffset at h
  simp only [toInt_I l0 u0, toInt_I l1 u1] at h
  exact lw_u hL rfl (fun G hC ht => q_setOffset  hC hs l0 u0 l1 u1) (fun ht g1 g2 g3 => by have q : -12 ≤ z1 ∧ z1 ≤ 12 := of_decide_eq_true g2; rw [Int.add_zero]; exact hs.setOff q.1 q.2) mB trivial h)
def w_setSummer (p0 p1 p2 : Int32) : LX Int32 := lu 0 (fun S => rs3 (gZ p0.toInt) (gSu p1.toInt p2.toInt) (true) (I (ma S 1 p0.toInt))) (fun S => seta (seta S 1 p0.toInt p1.toInt) 2 p0.toInt p2.toInt)
theorem E_L_setSummer (sv : Nat) (p0 p1 p2 : Int32) : LMH yL_setSummer cL_setSummer 5 (some .int) [(0, 7, 8, 16), (0, 7, 13, 19)] 9 148 3 18 [.ref sv, .int p0, .int p1, .int p2] sv (w_setSummer p0 p1 p2) := (E0_L_setSummer sv p0 p1 p2).imp (fun DA mm R hP => by
  obtain ⟨L, hL, h⟩ := hP
  have hs := hL.2.1
  obtain ⟨z0, l0, u0, rfl⟩ := I_of p0; obtain ⟨z1, l1, u1, rfl⟩ := I_of p1; obtain ⟨z2, l2, u2, rfl⟩ := I_of p2
  unfold w_setSummer at h
  simp only [toInt_I l0 u0, toInt_I l1 u1, toInt_I l2 u2] at h
  exact lw_u hL rfl (fun G hC ht => q_setSummer  hC hs l0 u0 l1 u1 l2 u2) (fun ht g1 g2 g3 => by rw [Int.add_zero]; exact hs.setSum g2) mB trivial h)
def w_make (p0 p1 p2 p3 p4 : Int32) : LX Int32 := lu 1 (fun S => rs3 (gP p0.toInt && gZ p1.toInt) (gT p2.toInt p3.toInt p4.toInt) (decide (mf S 3 < 8)) (I (mf S 3))) (fun S => sMake S p0.toInt p1.toInt p2.toInt p3.toInt p4.toInt)
theorem E_L_make (sv : Nat) (p0 p1 p2 p3 p4 : Int32) : LMH yL_make cL_make 7 (some .int) [(0, 11, 12, 16), (0, 11, 17, 19), (0, 11, 22, 36)] 10 172 16 861 [.ref sv, .int p0, .int p1, .int p2, .int p3, .int p4] sv (w_make p0 p1 p2 p3 p4) := (E0_L_make sv p0 p1 p2 p3 p4).imp (fun DA mm R hP => by
  obtain ⟨L, hL, h⟩ := hP
  have hs := hL.2.1
  obtain ⟨z0, l0, u0, rfl⟩ := I_of p0; obtain ⟨z1, l1, u1, rfl⟩ := I_of p1; obtain ⟨z2, l2, u2, rfl⟩ := I_of p2; obtain ⟨z3, l3, u3, rfl⟩ := I_of p3; obtain ⟨z4, l4, u4, rfl⟩ := I_of p4
  unfold w_make at h
  simp only [toInt_I l0 u0, toInt_I l1 u1, toInt_I l2 u2, toInt_I l3 u3, toInt_I l4 u4] at h
  exact lw_u hL rfl (fun G hC ht => q_make  hC hs ht l0 u0 l1 u1 l2 u2 l3 u3 l4 u4) (fun ht g1 g2 g3 => hs.make ht g1 g2 (of_decide_eq_true g3)) mA trivial h)
def w_time (p0 p1 p2 p3 : Int32) : LX Int32 := lu 1 (fun S => rs3 (gM S p0.toInt) (gT p1.toInt p2.toInt p3.toInt) (gH S p0.toInt) (I (rI S p0.toInt 9))) (fun S => sTime S p0.toInt p1.toInt p2.toInt p3.toInt)
theorem E_L_time (sv : Nat) (p0 p1 p2 p3 : Int32) : LMH yL_time cL_time 6 (some .int) [(0, 9, 10, 16), (0, 9, 15, 19), (0, 9, 20, 36)] 10 170 8 171 [.ref sv, .int p0, .int p1, .int p2, .int p3] sv (w_time p0 p1 p2 p3) := (E0_L_time sv p0 p1 p2 p3).imp (fun DA mm R hP => by
  obtain ⟨L, hL, h⟩ := hP
  have hs := hL.2.1
  obtain ⟨z0, l0, u0, rfl⟩ := I_of p0; obtain ⟨z1, l1, u1, rfl⟩ := I_of p1; obtain ⟨z2, l2, u2, rfl⟩ := I_of p2; obtain ⟨z3, l3, u3, rfl⟩ := I_of p3
  unfold w_time at h
  simp only [toInt_I l0 u0, toInt_I l1 u1, toInt_I l2 u2, toInt_I l3 u3] at h
  exact lw_u hL rfl (fun G hC ht => q_time  hC hs ht l0 u0 l1 u1 l2 u2 l3 u3) (fun ht g1 g2 g3 => hs.time ht g1 g2) mA trivial h)
def w_repeat (p0 p1 p2 p3 : Int32) : LX Int32 := lu 1 (fun S => rs3 (gM S p0.toInt) (gR p1.toInt p2.toInt p3.toInt) (gH S p0.toInt) (I (rI S p0.toInt 9))) (fun S => sRepeat S p0.toInt p1.toInt p2.toInt p3.toInt)
theorem E_L_repeat (sv : Nat) (p0 p1 p2 p3 : Int32) : LMH yL_repeat cL_repeat 6 (some .int) [(0, 9, 10, 16), (0, 9, 15, 19), (0, 9, 20, 36)] 9 148 8 171 [.ref sv, .int p0, .int p1, .int p2, .int p3] sv (w_repeat p0 p1 p2 p3) := (E0_L_repeat sv p0 p1 p2 p3).imp (fun DA mm R hP => by
  obtain ⟨L, hL, h⟩ := hP
  have hs := hL.2.1
  obtain ⟨z0, l0, u0, rfl⟩ := I_of p0; obtain ⟨z1, l1, u1, rfl⟩ := I_of p1; obtain ⟨z2, l2, u2, rfl⟩ := I_of p2; obtain ⟨z3, l3, u3, rfl⟩ := I_of p3
  unfold w_repeat at h
  simp only [toInt_I l0 u0, toInt_I l1 u1, toInt_I l2 u2, toInt_I l3 u3] at h
  exact lw_u hL rfl (fun G hC ht => q_repeat  hC hs ht l0 u0 l1 u1 l2 u2 l3 u3) (fun ht g1 g2 g3 => hs.repeat ht g1 g2) mA trivial h)
def w_drop (p0 p1 : Int32) : LX Int32 := lu 1 (fun S => rs3 (gM S p0.toInt) (gD p1.toInt) (gM S p0.toInt && gD p1.toInt && gH S p0.toInt && gN S p0.toInt p1.toInt) (I (rI S p0.toInt 9))) (fun S => sDrop S p0.toInt p1.toInt)
theorem E_L_drop (sv : Nat) (p0 p1 : Int32) : LMH yL_drop cL_drop 4 (some .int) [(0, 6, 7, 16), (0, 6, 11, 19), (0, 6, 15, 36)] 9 144 6 159 [.ref sv, .int p0, .int p1] sv (w_drop p0 p1) := (E0_L_drop sv p0 p1).imp (fun DA mm R hP => by
  obtain ⟨L, hL, h⟩ := hP
  have hs := hL.2.1
  obtain ⟨z0, l0, u0, rfl⟩ := I_of p0; obtain ⟨z1, l1, u1, rfl⟩ := I_of p1
  unfold w_drop at h
  simp only [toInt_I l0 u0, toInt_I l1 u1] at h
  exact lw_u hL rfl (fun G hC ht => q_drop  hC hs ht l0 u0 l1 u1) (fun ht g1 g2 g3 => hs.drop ht g1) mA trivial h)
def w_add (p0 p1 : Int32) : LX Int32 := lu 1 (fun S => rs3 (gM S p0.toInt) (gD p1.toInt) (gM S p0.toInt && gD p1.toInt && gH S p0.toInt && !gN S p0.toInt p1.toInt) (I (rI S p0.toInt 9))) (fun S => sAdd S p0.toInt p1.toInt)
theorem E_L_add (sv : Nat) (p0 p1 : Int32) : LMH yL_add cL_add 4 (some .int) [(0, 6, 7, 16), (0, 6, 11, 19), (0, 6, 15, 36)] 9 144 6 159 [.ref sv, .int p0, .int p1] sv (w_add p0 p1) := (E0_L_add sv p0 p1).imp (fun DA mm R hP => by
  obtain ⟨L, hL, h⟩ := hP
  have hs := hL.2.1
  obtain ⟨z0, l0, u0, rfl⟩ := I_of p0; obtain ⟨z1, l1, u1, rfl⟩ := I_of p1
  unfold w_add at h
  simp only [toInt_I l0 u0, toInt_I l1 u1] at h
  exact lw_u hL rfl (fun G hC ht => q_add  hC hs ht l0 u0 l1 u1) (fun ht g1 g2 g3 => hs.add ht g1 g2) mA trivial h)
def w_move (p0 p1 p2 : Int32) : LX Int32 := lu 1 (fun S => rs3 (gM S p0.toInt) (gD p1.toInt && gC p2.toInt) (gM S p0.toInt && (gD p1.toInt && gC p2.toInt) && gH S p0.toInt && gN S p0.toInt p1.toInt) (I (rI S p0.toInt 9))) (fun S => sMove S p0.toInt p1.toInt p2.toInt)
theorem E_L_move (sv : Nat) (p0 p1 p2 : Int32) : LMH yL_move cL_move 5 (some .int) [(0, 7, 8, 16), (0, 7, 13, 19), (0, 7, 18, 36)] 10 167 7 161 [.ref sv, .int p0, .int p1, .int p2] sv (w_move p0 p1 p2) := (E0_L_move sv p0 p1 p2).imp (fun DA mm R hP => by
  obtain ⟨L, hL, h⟩ := hP
  have hs := hL.2.1
  obtain ⟨z0, l0, u0, rfl⟩ := I_of p0; obtain ⟨z1, l1, u1, rfl⟩ := I_of p1; obtain ⟨z2, l2, u2, rfl⟩ := I_of p2
  unfold w_move at h
  simp only [toInt_I l0 u0, toInt_I l1 u1, toInt_I l2 u2] at h
  exact lw_u hL rfl (fun G hC ht => q_move  hC hs ht l0 u0 l1 u1 l2 u2) (fun ht g1 g2 g3 => by have q : 0 ≤ z2 ∧ z2 ≤ 1439 := of_decide_eq_true (Bool.and_eq_true_iff.mp g2).2; exact hs.move ht g1 ⟨q.1, by omega⟩) mA trivial h)
def w_cancel (p0 : Int32) : LX Int32 := lu 1 (fun S => rs3 (gM S p0.toInt) (true) (gH S p0.toInt) (I (rI S p0.toInt 9))) (fun S => sCancel S p0.toInt)
theorem E_L_cancel (sv : Nat) (p0 : Int32) : LMH yL_cancel cL_cancel 3 (some .int) [(0, 5, 6, 16), (0, 5, 10, 36)] 8 124 3 29 [.ref sv, .int p0] sv (w_cancel p0) := (E0_L_cancel sv p0).imp (fun DA mm R hP => by
  obtain ⟨L, hL, h⟩ := hP
  have hs := hL.2.1
  obtain ⟨z0, l0, u0, rfl⟩ := I_of p0
  unfold w_cancel at h
  simp only [toInt_I l0 u0] at h
  exact lw_u hL rfl (fun G hC ht => q_cancel  hC hs ht l0 u0) (fun ht g1 g2 g3 => hs.cancel ht g1) mC trivial h)
def w_invite (p0 p1 p2 : Int32) : LX Int32 := fun L => if p2 = 0 ∨ p2 = 1 then lu 1 (fun S => rs3 (gM S p0.toInt && gP p1.toInt) (gM S p0.toInt && gP p1.toInt && decide (¬ ma S 4 p0.toInt = p1.toInt)) (gM S p0.toInt && gP p1.toInt && gH S p0.toInt && !gS S p0.toInt p1.toInt (decide (p2 = 1))) (I (rI S p0.toInt 9))) (fun S => sInvite S p0.toInt p1.toInt (decide (p2 = 1))) L else none
theorem E_L_invite (sv : Nat) (p0 p1 p2 : Int32) : LMH yL_invite cL_invite 5 (some .int) [(0, 7, 8, 16), (0, 7, 13, 19), (0, 7, 18, 36)] 8 127 5 41 [.ref sv, .int p0, .int p1, .int p2] sv (w_invite p0 p1 p2) := (E0_L_invite sv p0 p1 p2).imp (fun DA mm R hP => by
  obtain ⟨L, hL, h⟩ := hP
  have hs := hL.2.1
  obtain ⟨z0, l0, u0, rfl⟩ := I_of p0; obtain ⟨z1, l1, u1, rfl⟩ := I_of p1
  obtain ⟨b, rfl⟩ : ∃ b : Bool, p2 = b2i b := by
    by_cases q : p2 = 0 ∨ p2 = 1
    · rcases q with rfl | rfl
      · exact ⟨false, rfl⟩
      · exact ⟨true, rfl⟩
    · exfalso
      unfold lwp w_invite at h
      rw [if_neg q] at h
      exact h
  have h : lwp (lu 1 (fun S => rs3 (gM S z0 && gP z1) (gM S z0 && gP z1 && decide (¬ ma S 4 z0 = z1)) (gM S z0 && gP z1 && gH S z0 && !gS S z0 z1 b) (I (rI S z0 9))) (fun S => sInvite S z0 z1 b)) (fun v L' => ∀ m', LR sv L' m' → R (.ok (some (.int v))) m') (fun _ _ => False) L := by
    have e : w_invite (I z0) (I z1) (b2i b) L = lu 1 (fun S => rs3 (gM S z0 && gP z1) (gM S z0 && gP z1 && decide (¬ ma S 4 z0 = z1)) (gM S z0 && gP z1 && gH S z0 && !gS S z0 z1 b) (I (rI S z0 9))) (fun S => sInvite S z0 z1 b) L := by
      unfold w_invite
      rw [if_pos (zb2 rfl), toInt_I l0 u0, toInt_I l1 u1]
      cases b <;> rfl
    unfold lwp at h ⊢
    rw [e] at h; exact h
  exact lw_u hL rfl (fun G hC ht => q_invite b hC hs ht l0 u0 l1 u1) (fun ht g1 g2 g3 => hs.invite b ht (Bool.and_eq_true_iff.mp g1).1 (Bool.and_eq_true_iff.mp g1).2 (of_decide_eq_true (Bool.and_eq_true_iff.mp g2).2)) mA trivial h)
def w_send (p0 : Int32) : LX Int32 := lu 0 (fun S => rs3 (gM S p0.toInt) (true) (decide (mf S 29 + cntB (sendSet S p0.toInt) 5 ≤ 150)) (I (cntB (sendSet S p0.toInt) 5))) (fun S => sSend S p0.toInt)
theorem E_L_send (sv : Nat) (p0 : Int32) : LMH yL_send cL_send 3 (some .int) [(0, 5, 6, 16), (0, 5, 10, 36)] 9 147 8 84 [.ref sv, .int p0] sv (w_send p0) := (E0_L_send sv p0).imp (fun DA mm R hP => by
  obtain ⟨L, hL, h⟩ := hP
  have hs := hL.2.1
  obtain ⟨z0, l0, u0, rfl⟩ := I_of p0
  unfold w_send at h
  simp only [toInt_I l0 u0] at h
  exact lw_u hL rfl (fun G hC ht => q_send  hC hs l0 u0) (fun ht g1 g2 g3 => by rw [Int.add_zero]; exact hs.send g1 (of_decide_eq_true g3)) mC trivial h)
def w_take (p0 : Int32) : LX Int32 := lu 1 (fun S => rs3 (gK S p0.toInt) (true) (isOpenB S p0.toInt) (I (rI S (ma S 34 p0.toInt) 9))) (fun S => sTake S p0.toInt)
theorem E_L_take (sv : Nat) (p0 : Int32) : LMH yL_take cL_take 3 (some .int) [(0, 5, 6, 16), (0, 5, 10, 36)] 8 124 5 149 [.ref sv, .int p0] sv (w_take p0) := (E0_L_take sv p0).imp (fun DA mm R hP => by
  obtain ⟨L, hL, h⟩ := hP
  have hs := hL.2.1
  obtain ⟨z0, l0, u0, rfl⟩ := I_of p0
  unfold w_take at h
  simp only [toInt_I l0 u0] at h
  exact lw_u hL rfl (fun G hC ht => q_take  hC hs ht l0 u0) (fun ht g1 g2 g3 => hs.take ht g1) mC trivial h)
def w_refuse (p0 : Int32) : LX Int32 := lu 0 (fun S => rs3 (gK S p0.toInt) (true) (isOpenB S p0.toInt) (I (opens (seta S 43 p0.toInt 1) (ma S 34 p0.toInt)))) (fun S => seta S 43 p0.toInt 1)
theorem E_L_refuse (sv : Nat) (p0 : Int32) : LMH yL_refuse cL_refuse 3 (some .int) [(0, 5, 6, 16), (0, 5, 10, 36)] 8 124 2 12 [.ref sv, .int p0] sv (w_refuse p0) := (E0_L_refuse sv p0).imp (fun DA mm R hP => by
  obtain ⟨L, hL, h⟩ := hP
  have hs := hL.2.1
  obtain ⟨z0, l0, u0, rfl⟩ := I_of p0
  unfold w_refuse at h
  simp only [toInt_I l0 u0] at h
  exact lw_u hL rfl (fun G hC ht => q_refuse  hC hs l0 u0) (fun ht g1 g2 g3 => by rw [Int.add_zero]; exact hs.set43 (gK_d g1).2) mC trivial h)
def w_propose (p0 p1 p2 p3 : Int32) : LX Int32 := lu 0 (fun S => rs3 (gP p0.toInt && gM S p1.toInt) (gD p2.toInt && gC p3.toInt) (gP p0.toInt && gM S p1.toInt && (gD p2.toInt && gC p3.toInt) && gHC S p0.toInt p1.toInt && gCD S p0.toInt p1.toInt p2.toInt && decide (mf S 29 < 150)) (I (mf S 29))) (fun S => sProp S p0.toInt p1.toInt p2.toInt p3.toInt)
theorem E_L_propose (sv : Nat) (p0 p1 p2 p3 : Int32) : LMH yL_propose cL_propose 6 (some .int) [(0, 9, 10, 16), (0, 9, 15, 19), (0, 9, 20, 36)] 10 170 8 54 [.ref sv, .int p0, .int p1, .int p2, .int p3] sv (w_propose p0 p1 p2 p3) := (E0_L_propose sv p0 p1 p2 p3).imp (fun DA mm R hP => by
  obtain ⟨L, hL, h⟩ := hP
  have hs := hL.2.1
  obtain ⟨z0, l0, u0, rfl⟩ := I_of p0; obtain ⟨z1, l1, u1, rfl⟩ := I_of p1; obtain ⟨z2, l2, u2, rfl⟩ := I_of p2; obtain ⟨z3, l3, u3, rfl⟩ := I_of p3
  unfold w_propose at h
  simp only [toInt_I l0 u0, toInt_I l1 u1, toInt_I l2 u2, toInt_I l3 u3] at h
  exact lw_u hL rfl (fun G hC ht => q_propose  hC hs l0 u0 l1 u1 l2 u2 l3 u3) (fun ht g1 g2 g3 => by
    have g3 := Bool.and_eq_true_iff.mp g3
    have g4 := Bool.and_eq_true_iff.mp (Bool.and_eq_true_iff.mp g3.1).1
    have qp := gP_d (Bool.and_eq_true_iff.mp g1).1
    have q := gM_d (Bool.and_eq_true_iff.mp g1).2
    have qd := gD_d (Bool.and_eq_true_iff.mp g2).1
    have qc : 0 ≤ z3 ∧ z3 ≤ 1439 := of_decide_eq_true (Bool.and_eq_true_iff.mp g2).2
    have hc := hc_d hs.wr qp.1 qp.2 q.1 q.2 g4.2
    rw [Int.add_zero]
    exact hs.prop (of_decide_eq_true g3.2) qp.1 qp.2 q.1 q.2 hc.2.1 qd.1 qd.2 qc.1 (by omega)) mA trivial h)
def w_answer (p0 p1 p2 p3 : Int32) : LX Int32 := lu 1 (fun S => rs3 (gP p0.toInt && gM S p1.toInt) (gA p2.toInt p3.toInt) (gP p0.toInt && gM S p1.toInt && gA p2.toInt p3.toInt && gHC S p0.toInt p1.toInt && (decide (p2.toInt = -1) || gCD S p0.toInt p1.toInt p2.toInt) && decide (mf S 29 < 150)) (I (mf S 29))) (fun S => sRep S p0.toInt p1.toInt p2.toInt p3.toInt)
theorem E_L_answer (sv : Nat) (p0 p1 p2 p3 : Int32) : LMH yL_answer cL_answer 6 (some .int) [(0, 9, 10, 16), (0, 9, 15, 19), (0, 9, 20, 36)] 9 150 8 54 [.ref sv, .int p0, .int p1, .int p2, .int p3] sv (w_answer p0 p1 p2 p3) := (E0_L_answer sv p0 p1 p2 p3).imp (fun DA mm R hP => by
  obtain ⟨L, hL, h⟩ := hP
  have hs := hL.2.1
  obtain ⟨z0, l0, u0, rfl⟩ := I_of p0; obtain ⟨z1, l1, u1, rfl⟩ := I_of p1; obtain ⟨z2, l2, u2, rfl⟩ := I_of p2; obtain ⟨z3, l3, u3, rfl⟩ := I_of p3
  unfold w_answer at h
  simp only [toInt_I l0 u0, toInt_I l1 u1, toInt_I l2 u2, toInt_I l3 u3] at h
  exact lw_u hL rfl (fun G hC ht => q_answer  hC hs ht l0 u0 l1 u1 l2 u2 l3 u3) (fun ht g1 g2 g3 => by
    have g3 := Bool.and_eq_true_iff.mp g3
    have g4 := Bool.and_eq_true_iff.mp (Bool.and_eq_true_iff.mp g3.1).1
    have qp := gP_d (Bool.and_eq_true_iff.mp g1).1
    have q := gM_d (Bool.and_eq_true_iff.mp g1).2
    have g2' : (z2 = -1 ∨ (0 ≤ z2 ∧ z2 ≤ 59)) ∧ (1 ≤ z3 ∧ z3 ≤ 3) := by
      have z := g2
      unfold gA at z
      simp only [Bool.and_eq_true, Bool.or_eq_true, decide_eq_true_eq] at z
      exact z
    have hc := hc_d hs.wr qp.1 qp.2 q.1 q.2 g4.2
    exact hs.rep ht (of_decide_eq_true g3.2) qp.1 qp.2 q.1 q.2 hc.2.1 (by omega) (by omega) (by omega) (by omega)) mA trivial h)
def w_delegate (p0 p1 p2 : Int32) : LX Int32 := lu 1 (fun S => rs3 (gP p0.toInt && gM S p1.toInt && gP p2.toInt) (gP p0.toInt && gM S p1.toInt && gP p2.toInt && gO S p0.toInt p1.toInt p2.toInt) (gP p0.toInt && gM S p1.toInt && gP p2.toInt && gHC S p0.toInt p1.toInt && decide (mf S 29 + 2 ≤ 150)) (I (mf S 29))) (fun S => sDel S p0.toInt p1.toInt p2.toInt)
theorem E_L_delegate (sv : Nat) (p0 p1 p2 : Int32) : LMH yL_delegate cL_delegate 5 (some .int) [(0, 7, 8, 16), (0, 7, 13, 19), (0, 7, 18, 36)] 9 149 8 60 [.ref sv, .int p0, .int p1, .int p2] sv (w_delegate p0 p1 p2) := (E0_L_delegate sv p0 p1 p2).imp (fun DA mm R hP => by
  obtain ⟨L, hL, h⟩ := hP
  have hs := hL.2.1
  obtain ⟨z0, l0, u0, rfl⟩ := I_of p0; obtain ⟨z1, l1, u1, rfl⟩ := I_of p1; obtain ⟨z2, l2, u2, rfl⟩ := I_of p2
  unfold w_delegate at h
  simp only [toInt_I l0 u0, toInt_I l1 u1, toInt_I l2 u2] at h
  exact lw_u hL rfl (fun G hC ht => q_delegate  hC hs ht l0 u0 l1 u1 l2 u2) (fun ht g1 g2 g3 => by
    have g3 := Bool.and_eq_true_iff.mp g3
    have g4 := Bool.and_eq_true_iff.mp g3.1
    have g5 := Bool.and_eq_true_iff.mp g1
    have g6 := Bool.and_eq_true_iff.mp g5.1
    have qp := gP_d g6.1
    have qo := gP_d g5.2
    have q := gM_d g6.2
    have hc := hc_d hs.wr qp.1 qp.2 q.1 q.2 g4.2
    have qg := (Bool.and_eq_true_iff.mp g2).2
    unfold gO at qg
    exact hs.del ht (of_decide_eq_true g3.2) qp.1 qp.2 q.1 q.2 hc.2.1 qo.1 qo.2 (of_decide_eq_true (Bool.and_eq_true_iff.mp qg).2)) mA trivial h)
def w_deliver (p0 : Int32) : LX Int32 := lu 1 (fun S => rs3 (gK S p0.toInt) (true) (true) (b2i (ansDlv S p0.toInt))) (fun S => stDlv S p0.toInt)
theorem E_L_deliver (sv : Nat) (p0 : Int32) : LMH yL_deliver cL_deliver 3 (some .int) [(0, 13, 14, 16)] 8 125 1 6 [.ref sv, .int p0] sv (w_deliver p0) := (E0_L_deliver sv p0).imp (fun DA mm R hP => by
  obtain ⟨L, hL, h⟩ := hP
  have hs := hL.2.1
  obtain ⟨z0, l0, u0, rfl⟩ := I_of p0
  unfold w_deliver at h
  simp only [toInt_I l0 u0] at h
  exact lw_u hL rfl (fun G hC ht => q_deliver  hC hs ht l0 u0) (fun ht g1 g2 g3 => hs.dlv ht g1) mD (zb2 rfl) h)
