/-! what the law's own methods answer, over the law's state -/
noncomputable def ffO (B : Int → Bool) (f l : Int) : Int := Classical.epsilon (fun r => isFF B f l r)
theorem ffO_is {B : Int → Bool} {f l : Int} (h : ∃ r, isFF B f l r) : isFF B f l (ffO B f l) := Classical.epsilon_spec h
theorem ffO_eq {B : Int → Bool} {f l r : Int} (h : isFF B f l r) : ffO B f l = r := isFF_one (ffO_is ⟨r, h⟩) h
theorem mE {g : Bool} {v : Int32} : ∀ e, (if g = true then Except.ok v else Except.error 2 : Except Nat Int32) = .error e → mpE e = some (ec e) := by
  intro e h
  cases g <;> cases h <;> rfl
theorem mAc {g a b c d : Bool} {v w : Int32} : ∀ e, (if g = true then rs3 d true true v else rs3 a b c w) = .error e → mpA e = some (ec e) := by
  intro e h
  cases g
  · exact mA e h
  · exact mA e h
def w_common (p0 p1 : Int32) : LX Int32 := lqe fun S => rs3 (gZ p0.toInt) (gH2 p1.toInt) (true) (I (sCom S p0.toInt p1.toInt))
theorem E_L_common (sv : Nat) (p0 p1 : Int32) : LMH yL_common cL_common 4 (some .int) [(0, 6, 7, 16), (0, 6, 11, 19)] 9 146 2 12 [.ref sv, .int p0, .int p1] sv (w_common p0 p1) := (E0_L_common sv p0 p1).imp (fun DA mm R hP => by
  obtain ⟨L, hL, h⟩ := hP
  have hs := hL.2.1
  obtain ⟨z0, l0, u0, rfl⟩ := I_of p0; obtain ⟨z1, l1, u1, rfl⟩ := I_of p1
  unfold w_common at h
  simp only [toInt_I l0 u0, toInt_I l1 u1] at h
  exact lw_q hL (fun G hC => q_common hC hs.wr l0 u0 l1 u1) mB (fun _ _ => trivial) h)
def w_local (p0 p1 : Int32) : LX Int32 := lqe fun S => rs3 (gZ p0.toInt) (gH2 p1.toInt) (true) (I (sLoc S p0.toInt p1.toInt))
theorem E_L_local (sv : Nat) (p0 p1 : Int32) : LMH yL_local cL_local 4 (some .int) [(0, 6, 7, 16), (0, 6, 11, 19)] 9 146 2 12 [.ref sv, .int p0, .int p1] sv (w_local p0 p1) := (E0_L_local sv p0 p1).imp (fun DA mm R hP => by
  obtain ⟨L, hL, h⟩ := hP
  have hs := hL.2.1
  obtain ⟨z0, l0, u0, rfl⟩ := I_of p0; obtain ⟨z1, l1, u1, rfl⟩ := I_of p1
  unfold w_local at h
  simp only [toInt_I l0 u0, toInt_I l1 u1] at h
  exact lw_q hL (fun G hC => q_local hC hs.wr l0 u0 l1 u1) mB (fun _ _ => trivial) h)
def w_kindOf (p0 : Int32) : LX Int32 := lqe fun S => rs3 (gK S p0.toInt) (true) (true) (I (ma S 31 p0.toInt))
theorem E_L_kindOf (sv : Nat) (p0 : Int32) : LMH yL_kindOf cL_kindOf 3 (some .int) [(0, 5, 6, 16)] 8 123 1 6 [.ref sv, .int p0] sv (w_kindOf p0) := (E0_L_kindOf sv p0).imp (fun DA mm R hP => by
  obtain ⟨L, hL, h⟩ := hP
  have hs := hL.2.1
  obtain ⟨z0, l0, u0, rfl⟩ := I_of p0
  unfold w_kindOf at h
  simp only [toInt_I l0 u0] at h
  exact lw_q hL (fun G hC => q_kindOf hC hs.wr l0 u0) mD (fun _ _ => trivial) h)
def w_receiver (p0 : Int32) : LX Int32 := lqe fun S => rs3 (gK S p0.toInt) (true) (true) (I (ma S 33 p0.toInt))
theorem E_L_receiver (sv : Nat) (p0 : Int32) : LMH yL_receiver cL_receiver 3 (some .int) [(0, 5, 6, 16)] 8 123 1 6 [.ref sv, .int p0] sv (w_receiver p0) := (E0_L_receiver sv p0).imp (fun DA mm R hP => by
  obtain ⟨L, hL, h⟩ := hP
  have hs := hL.2.1
  obtain ⟨z0, l0, u0, rfl⟩ := I_of p0
  unfold w_receiver at h
  simp only [toInt_I l0 u0] at h
  exact lw_q hL (fun G hC => q_receiver hC hs.wr l0 u0) mD (fun _ _ => trivial) h)
def w_isThere (p0 p1 : Int32) : LX Int32 := lqe fun S => rs3 (gPM S p0.toInt p1.toInt) (true) (true) (b2i (isHere S p0.toInt p1.toInt))
theorem E_L_isThere (sv : Nat) (p0 p1 : Int32) : LMH yL_isThere cL_isThere 4 (some .int) [(0, 14, 15, 16)] 8 124 2 12 [.ref sv, .int p0, .int p1] sv (w_isThere p0 p1) := (E0_L_isThere sv p0 p1).imp (fun DA mm R hP => by
  obtain ⟨L, hL, h⟩ := hP
  have hs := hL.2.1
  obtain ⟨z0, l0, u0, rfl⟩ := I_of p0; obtain ⟨z1, l1, u1, rfl⟩ := I_of p1
  unfold w_isThere at h
  simp only [toInt_I l0 u0, toInt_I l1 u1] at h
  exact lw_q hL (fun G hC => q_isThere hC hs l0 u0 l1 u1) mD (fun v hv => zb2 (rs3_v hv)) h)
def w_sequence (p0 p1 : Int32) : LX Int32 := lqe fun S => rs3 (gPM S p0.toInt p1.toInt) (true) (true) (I (seqOf S p0.toInt p1.toInt))
theorem E_L_sequence (sv : Nat) (p0 p1 : Int32) : LMH yL_sequence cL_sequence 4 (some .int) [(0, 6, 7, 16)] 8 125 2 12 [.ref sv, .int p0, .int p1] sv (w_sequence p0 p1) := (E0_L_sequence sv p0 p1).imp (fun DA mm R hP => by
  obtain ⟨L, hL, h⟩ := hP
  have hs := hL.2.1
  obtain ⟨z0, l0, u0, rfl⟩ := I_of p0; obtain ⟨z1, l1, u1, rfl⟩ := I_of p1
  unfold w_sequence at h
  simp only [toInt_I l0 u0, toInt_I l1 u1] at h
  exact lw_q hL (fun G hC => q_sequence hC hs l0 u0 l1 u1) mD (fun _ _ => trivial) h)
def w_dates (p0 p1 : Int32) : LX Int32 := lqe fun S => rs3 (gPM S p0.toInt p1.toInt) (true) (true) (I (cnt (hl (datOf S p0.toInt p1.toInt)) 60))
theorem E_L_dates (sv : Nat) (p0 p1 : Int32) : LMH yL_dates cL_dates 4 (some .int) [(0, 6, 7, 16)] 8 125 2 12 [.ref sv, .int p0, .int p1] sv (w_dates p0 p1) := (E0_L_dates sv p0 p1).imp (fun DA mm R hP => by
  obtain ⟨L, hL, h⟩ := hP
  have hs := hL.2.1
  obtain ⟨z0, l0, u0, rfl⟩ := I_of p0; obtain ⟨z1, l1, u1, rfl⟩ := I_of p1
  unfold w_dates at h
  simp only [toInt_I l0 u0, toInt_I l1 u1] at h
  exact lw_q hL (fun G hC => q_dates hC hs l0 u0 l1 u1) mD (fun _ _ => trivial) h)
def w_dateAt (p0 p1 p2 : Int32) : LX Int32 := lqe fun S => rs3 (gPM S p0.toInt p1.toInt && decide (0 ≤ p2.toInt ∧ p2.toInt < cnt (hl (datOf S p0.toInt p1.toInt)) 60)) (true) (true) (I (nth (hl (datOf S p0.toInt p1.toInt)) p2.toInt 60))
theorem E_L_dateAt (sv : Nat) (p0 p1 p2 : Int32) : LMH yL_dateAt cL_dateAt 5 (some .int) [(0, 7, 8, 16)] 8 126 3 18 [.ref sv, .int p0, .int p1, .int p2] sv (w_dateAt p0 p1 p2) := (E0_L_dateAt sv p0 p1 p2).imp (fun DA mm R hP => by
  obtain ⟨L, hL, h⟩ := hP
  have hs := hL.2.1
  obtain ⟨z0, l0, u0, rfl⟩ := I_of p0; obtain ⟨z1, l1, u1, rfl⟩ := I_of p1; obtain ⟨z2, l2, u2, rfl⟩ := I_of p2
  unfold w_dateAt at h
  simp only [toInt_I l0 u0, toInt_I l1 u1, toInt_I l2 u2] at h
  exact lw_q hL (fun G hC => q_dateAt hC hs l0 u0 l1 u1 l2 u2) mD (fun _ _ => trivial) h)
def w_begin (p0 p1 p2 : Int32) : LX Int32 := lqe fun S => rs3 (gPM S p0.toInt p1.toInt) (gD p2.toInt) (gPD S p0.toInt p1.toInt p2.toInt) (I (begOf S (verOf S p0.toInt p1.toInt) p2.toInt))
theorem E_L_begin (sv : Nat) (p0 p1 p2 : Int32) : LMH yL_begin cL_begin 5 (some .int) [(0, 7, 8, 16), (0, 7, 13, 19), (0, 7, 18, 36)] 9 145 4 24 [.ref sv, .int p0, .int p1, .int p2] sv (w_begin p0 p1 p2) := (E0_L_begin sv p0 p1 p2).imp (fun DA mm R hP => by
  obtain ⟨L, hL, h⟩ := hP
  have hs := hL.2.1
  obtain ⟨z0, l0, u0, rfl⟩ := I_of p0; obtain ⟨z1, l1, u1, rfl⟩ := I_of p1; obtain ⟨z2, l2, u2, rfl⟩ := I_of p2
  unfold w_begin at h
  simp only [toInt_I l0 u0, toInt_I l1 u1, toInt_I l2 u2] at h
  exact lw_q hL (fun G hC => q_begin hC hs l0 u0 l1 u1 l2 u2) mA (fun _ _ => trivial) h)
def w_ownAnswer (p0 p1 p2 : Int32) : LX Int32 := lqe fun S => rs3 (gPM S p0.toInt p1.toInt) (gD p2.toInt) (gPD S p0.toInt p1.toInt p2.toInt) (I (ownOf S p0.toInt p1.toInt p2.toInt))
theorem E_L_ownAnswer (sv : Nat) (p0 p1 p2 : Int32) : LMH yL_ownAnswer cL_ownAnswer 5 (some .int) [(0, 7, 8, 16), (0, 7, 13, 19), (0, 7, 18, 36)] 9 145 4 24 [.ref sv, .int p0, .int p1, .int p2] sv (w_ownAnswer p0 p1 p2) := (E0_L_ownAnswer sv p0 p1 p2).imp (fun DA mm R hP => by
  obtain ⟨L, hL, h⟩ := hP
  have hs := hL.2.1
  obtain ⟨z0, l0, u0, rfl⟩ := I_of p0; obtain ⟨z1, l1, u1, rfl⟩ := I_of p1; obtain ⟨z2, l2, u2, rfl⟩ := I_of p2
  unfold w_ownAnswer at h
  simp only [toInt_I l0 u0, toInt_I l1 u1, toInt_I l2 u2] at h
  exact lw_q hL (fun G hC => q_ownAnswer hC hs l0 u0 l1 u1 l2 u2) mA (fun _ _ => trivial) h)
def w_isAsked (p0 p1 : Int32) : LX Int32 := lqe fun S => rs3 (gPM S p1.toInt p0.toInt) (true) (true) (b2i (hb (asked S p0.toInt) p1.toInt))
theorem E_L_isAsked (sv : Nat) (p0 p1 : Int32) : LMH yL_isAsked cL_isAsked 4 (some .int) [(0, 14, 15, 16)] 8 125 2 12 [.ref sv, .int p0, .int p1] sv (w_isAsked p0 p1) := (E0_L_isAsked sv p0 p1).imp (fun DA mm R hP => by
  obtain ⟨L, hL, h⟩ := hP
  have hs := hL.2.1
  obtain ⟨z0, l0, u0, rfl⟩ := I_of p0; obtain ⟨z1, l1, u1, rfl⟩ := I_of p1
  unfold w_isAsked at h
  simp only [toInt_I l0 u0, toInt_I l1 u1] at h
  exact lw_q hL (fun G hC => q_isAsked hC hs l1 u1 l0 u0) mD (fun v hv => zb2 (rs3_v hv)) h)
def w_answerOf (p0 p1 p2 : Int32) : LX Int32 := lqe fun S => rs3 (gPM S p1.toInt p0.toInt) (gD p2.toInt) (gND S p1.toInt p0.toInt p2.toInt) (I (ansOf S p0.toInt p1.toInt p2.toInt))
theorem E_L_answerOf (sv : Nat) (p0 p1 p2 : Int32) : LMH yL_answerOf cL_answerOf 5 (some .int) [(0, 7, 8, 16), (0, 7, 13, 19), (0, 7, 18, 36)] 9 145 4 24 [.ref sv, .int p0, .int p1, .int p2] sv (w_answerOf p0 p1 p2) := (E0_L_answerOf sv p0 p1 p2).imp (fun DA mm R hP => by
  obtain ⟨L, hL, h⟩ := hP
  have hs := hL.2.1
  obtain ⟨z0, l0, u0, rfl⟩ := I_of p0; obtain ⟨z1, l1, u1, rfl⟩ := I_of p1; obtain ⟨z2, l2, u2, rfl⟩ := I_of p2
  unfold w_answerOf at h
  simp only [toInt_I l0 u0, toInt_I l1 u1, toInt_I l2 u2] at h
  exact lw_q hL (fun G hC => q_answerOf hC hs l1 u1 l0 u0 l2 u2) mA (fun _ _ => trivial) h)
def w_answerByLog (p0 p1 p2 : Int32) : LX Int32 := lqe fun S => rs3 (gPM S p1.toInt p0.toInt) (gD p2.toInt) (gND S p1.toInt p0.toInt p2.toInt) (I (ansOf S p0.toInt p1.toInt p2.toInt))
theorem E_L_answerByLog (sv : Nat) (p0 p1 p2 : Int32) : LMH yL_answerByLog cL_answerByLog 5 (some .int) [(0, 7, 8, 16), (0, 7, 13, 19), (0, 7, 18, 36)] 9 147 4 24 [.ref sv, .int p0, .int p1, .int p2] sv (w_answerByLog p0 p1 p2) := (E0_L_answerByLog sv p0 p1 p2).imp (fun DA mm R hP => by
  obtain ⟨L, hL, h⟩ := hP
  have hs := hL.2.1
  obtain ⟨z0, l0, u0, rfl⟩ := I_of p0; obtain ⟨z1, l1, u1, rfl⟩ := I_of p1; obtain ⟨z2, l2, u2, rfl⟩ := I_of p2
  unfold w_answerByLog at h
  simp only [toInt_I l0 u0, toInt_I l1 u1, toInt_I l2 u2] at h
  exact lw_q hL (fun G hC => q_answerByLog hC hs l1 u1 l0 u0 l2 u2) mA (fun _ _ => trivial) h)
def w_agrees (p0 : Int32) : LX Int32 := lqe fun S => rs3 (gM S p0.toInt) (true) (true) (b2i (agreesB S p0.toInt))
theorem E_L_agrees (sv : Nat) (p0 : Int32) : LMH yL_agrees cL_agrees 3 (some .int) [(0, 13, 14, 16)] 8 138 1 6 [.ref sv, .int p0] sv (w_agrees p0) := (E0_L_agrees sv p0).imp (fun DA mm R hP => by
  obtain ⟨L, hL, h⟩ := hP
  have hs := hL.2.1
  obtain ⟨z0, l0, u0, rfl⟩ := I_of p0
  unfold w_agrees at h
  simp only [toInt_I l0 u0] at h
  exact lw_q hL (fun G hC => q_agrees hC hs l0 u0) mD (fun v hv => zb2 (rs3_v hv)) h)
def w_proposals (p0 : Int32) : LX Int32 := lqe fun S => rs3 (gM S p0.toInt) (true) (true) (I (opens S p0.toInt))
theorem E_L_proposals (sv : Nat) (p0 : Int32) : LMH yL_proposals cL_proposals 3 (some .int) [(0, 5, 6, 16)] 8 123 1 6 [.ref sv, .int p0] sv (w_proposals p0) := (E0_L_proposals sv p0).imp (fun DA mm R hP => by
  obtain ⟨L, hL, h⟩ := hP
  have hs := hL.2.1
  obtain ⟨z0, l0, u0, rfl⟩ := I_of p0
  unfold w_proposals at h
  simp only [toInt_I l0 u0] at h
  exact lw_q hL (fun G hC => q_proposals hC hs l0 u0) mD (fun _ _ => trivial) h)
def w_proposalAt (p0 p1 : Int32) : LX Int32 := lqe fun S => rs3 (gM S p0.toInt && decide (0 ≤ p1.toInt ∧ p1.toInt < opens S p0.toInt)) (true) (true) (I (nth (opC S p0.toInt) p1.toInt (mf S 29).toNat))
theorem E_L_proposalAt (sv : Nat) (p0 p1 : Int32) : LMH yL_proposalAt cL_proposalAt 4 (some .int) [(0, 6, 7, 16)] 8 129 2 12 [.ref sv, .int p0, .int p1] sv (w_proposalAt p0 p1) := (E0_L_proposalAt sv p0 p1).imp (fun DA mm R hP => by
  obtain ⟨L, hL, h⟩ := hP
  have hs := hL.2.1
  obtain ⟨z0, l0, u0, rfl⟩ := I_of p0; obtain ⟨z1, l1, u1, rfl⟩ := I_of p1
  unfold w_proposalAt at h
  simp only [toInt_I l0 u0, toInt_I l1 u1] at h
  exact lw_q hL (fun G hC => q_proposalAt hC hs l0 u0 l1 u1) mD (fun _ _ => trivial) h)
def w_rank (p0 p1 : Int32) : LX Int32 := lqe fun S => rs3 (gP p0.toInt) (gW p1.toInt) (true) (I (rkM S p0.toInt p1.toInt (mf S 3).toNat))
theorem E_L_rank (sv : Nat) (p0 p1 : Int32) : LMH yL_rank cL_rank 4 (some .int) [(0, 6, 7, 16), (0, 6, 11, 19)] 9 147 2 12 [.ref sv, .int p0, .int p1] sv (w_rank p0 p1) := (E0_L_rank sv p0 p1).imp (fun DA mm R hP => by
  obtain ⟨L, hL, h⟩ := hP
  have hs := hL.2.1
  obtain ⟨z0, l0, u0, rfl⟩ := I_of p0; obtain ⟨z1, l1, u1, rfl⟩ := I_of p1
  unfold w_rank at h
  simp only [toInt_I l0 u0, toInt_I l1 u1] at h
  exact lw_q hL (fun G hC => q_rank hC hs l0 u0 l1 u1) mB (fun _ _ => trivial) h)
def w_mark (p0 : Int32) : LX Int32 := lqe fun S => rs3 (gP p0.toInt) (true) (true) (I (ma S 27 p0.toInt))
theorem E_L_mark (sv : Nat) (p0 : Int32) : LMH yL_mark cL_mark 3 (some .int) [(0, 5, 6, 16)] 8 122 1 6 [.ref sv, .int p0] sv (w_mark p0) := (E0_L_mark sv p0).imp (fun DA mm R hP => by
  obtain ⟨L, hL, h⟩ := hP
  have hs := hL.2.1
  obtain ⟨z0, l0, u0, rfl⟩ := I_of p0
  unfold w_mark at h
  simp only [toInt_I l0 u0] at h
  exact lw_q hL (fun G hC => q_mark hC l0 u0) mD (fun _ _ => trivial) h)
def w_changes (p0 p1 : Int32) : LX Int32 := lqe fun S => rs3 (gP p0.toInt) (gMk S p0.toInt p1.toInt) (gFl S p0.toInt p1.toInt) (I (cnt (abC S p0.toInt p1.toInt) (mf S 3).toNat))
theorem E_L_changes (sv : Nat) (p0 p1 : Int32) : LMH yL_changes cL_changes 4 (some .int) [(0, 6, 7, 16), (0, 6, 11, 19), (0, 6, 15, 36)] 10 168 3 18 [.ref sv, .int p0, .int p1] sv (w_changes p0 p1) := (E0_L_changes sv p0 p1).imp (fun DA mm R hP => by
  obtain ⟨L, hL, h⟩ := hP
  have hs := hL.2.1
  obtain ⟨z0, l0, u0, rfl⟩ := I_of p0; obtain ⟨z1, l1, u1, rfl⟩ := I_of p1
  unfold w_changes at h
  simp only [toInt_I l0 u0, toInt_I l1 u1] at h
  exact lw_q hL (fun G hC => q_changes hC hs l0 u0 l1 u1) mA (fun _ _ => trivial) h)
def w_changeAt (p0 p1 p2 : Int32) : LX Int32 := lqe fun S => if (gP p0.toInt && gMk S p0.toInt p1.toInt && gFl S p0.toInt p1.toInt) = true then rs3 (decide (0 ≤ p2.toInt ∧ p2.toInt < cnt (abC S p0.toInt p1.toInt) (mf S 3).toNat)) true true (I (lastTo (chgC S p0.toInt p1.toInt p2.toInt) (mf S 3).toNat)) else rs3 (gP p0.toInt) (gMk S p0.toInt p1.toInt) (gFl S p0.toInt p1.toInt) (I 0)
theorem E_L_changeAt (sv : Nat) (p0 p1 p2 : Int32) : LMH yL_changeAt cL_changeAt 5 (some .int) [(0, 7, 8, 16), (0, 7, 13, 19), (0, 7, 18, 36)] 10 173 4 24 [.ref sv, .int p0, .int p1, .int p2] sv (w_changeAt p0 p1 p2) := (E0_L_changeAt sv p0 p1 p2).imp (fun DA mm R hP => by
  obtain ⟨L, hL, h⟩ := hP
  have hs := hL.2.1
  obtain ⟨z0, l0, u0, rfl⟩ := I_of p0; obtain ⟨z1, l1, u1, rfl⟩ := I_of p1; obtain ⟨z2, l2, u2, rfl⟩ := I_of p2
  unfold w_changeAt at h
  simp only [toInt_I l0 u0, toInt_I l1 u1, toInt_I l2 u2] at h
  exact lw_q hL (fun G hC => q_changeAt hC hs l0 u0 l1 u1 l2 u2) mAc (fun _ _ => trivial) h)
noncomputable def w_firstFree (p0 p1 p2 : Int32) : LX Int32 := lqe fun S => if gF p0.toInt p1.toInt p2.toInt = true then .ok (I (ffO (bsy S p0.toInt) p1.toInt p2.toInt)) else .error 2
theorem E_L_firstFree (sv : Nat) (p0 p1 p2 : Int32) : LMH yL_firstFree cL_firstFree 5 (some .int) [(0, 7, 8, 19)] 10 172 3 18 [.ref sv, .int p0, .int p1, .int p2] sv (w_firstFree p0 p1 p2) := (E0_L_firstFree sv p0 p1 p2).imp (fun DA mm R hP => by
  obtain ⟨L, hL, h⟩ := hP
  have hs := hL.2.1
  obtain ⟨z0, l0, u0, rfl⟩ := I_of p0; obtain ⟨z1, l1, u1, rfl⟩ := I_of p1; obtain ⟨z2, l2, u2, rfl⟩ := I_of p2
  unfold w_firstFree at h
  simp only [toInt_I l0 u0, toInt_I l1 u1, toInt_I l2 u2] at h
  refine lw_q hL (fun G hC => ?_) mE (fun _ _ => trivial) h
  have hq := q_firstFree hC hs l0 u0 l1 u1 l2 u2
  show OUT sv _ mm (if gF z0 z1 z2 = true then Except.ok (I (ffO (bsy (zS L) z0) z1 z2)) else Except.error 2) (zS L)
  by_cases g : gF z0 z1 z2 = true
  · rw [if_pos g] at hq ⊢
    obtain ⟨r, hr, hf⟩ := hq
    rw [ffO_eq hf]; exact hr
  · rw [if_neg g] at hq ⊢
    exact hq)
noncomputable def w_firstFreeByHours (p0 p1 p2 : Int32) : LX Int32 := lqe fun S => if gF p0.toInt p1.toInt p2.toInt = true then .ok (I (ffO (bsy S p0.toInt) p1.toInt p2.toInt)) else .error 2
theorem E_L_firstFreeByHours (sv : Nat) (p0 p1 p2 : Int32) : LMH yL_firstFreeByHours cL_firstFreeByHours 5 (some .int) [(0, 7, 8, 19)] 10 170 3 18 [.ref sv, .int p0, .int p1, .int p2] sv (w_firstFreeByHours p0 p1 p2) := (E0_L_firstFreeByHours sv p0 p1 p2).imp (fun DA mm R hP => by
  obtain ⟨L, hL, h⟩ := hP
  have hs := hL.2.1
  obtain ⟨z0, l0, u0, rfl⟩ := I_of p0; obtain ⟨z1, l1, u1, rfl⟩ := I_of p1; obtain ⟨z2, l2, u2, rfl⟩ := I_of p2
  unfold w_firstFreeByHours at h
  simp only [toInt_I l0 u0, toInt_I l1 u1, toInt_I l2 u2] at h
  refine lw_q hL (fun G hC => ?_) mE (fun _ _ => trivial) h
  have hq := q_firstFreeByHours hC hs l0 u0 l1 u1 l2 u2
  show OUT sv _ mm (if gF z0 z1 z2 = true then Except.ok (I (ffO (bsy (zS L) z0) z1 z2)) else Except.error 2) (zS L)
  by_cases g : gF z0 z1 z2 = true
  · rw [if_pos g] at hq ⊢
    obtain ⟨r, hr, hf⟩ := hq
    rw [ffO_eq hf]; exact hr
  · rw [if_neg g] at hq ⊢
    exact hq)
def w_lineLength (p0 : Int32) : LX Int32 := lqe fun S => rs3 (gK S p0.toInt) true true (I (((lineL S p0.toInt).length : Nat) : Int))
theorem E_L_lineLength (sv : Nat) (p0 : Int32) : LMH yL_lineLength cL_lineLength 3 (some .int) [(0, 5, 6, 16)] 8 176 13 366 [.ref sv, .int p0] sv (w_lineLength p0) := fun l D DA Hs mm R htr hP => by
  obtain ⟨L, hL, h⟩ := hP
  obtain ⟨z0, l0, u0, rfl⟩ := I_of p0
  obtain ⟨G, hC⟩ := hL.1
  unfold w_lineLength at h
  simp only [toInt_I l0 u0] at h
  have h' : ∀ m', LR sv L m' → R (.ok (some (.int (lres (rs3 (gK (zS L) z0) true true (I (((lineL (zS L) z0).length : Nat) : Int))))))) m' := h
  refine E0_L_lineLength sv G (zS L) (zT L) z0 l D DA Hs mm R htr ⟨hC, hL.2.1, hL.2.1.wr.nn.2.1, ⟨l0, u0⟩, ?_⟩
  by_cases g : gK (zS L) z0 = true
  · rw [if_pos g]
    rw [rs3_4 g rfl rfl] at h'
    exact fun m' hg => h' m' (hL.grow hg)
  · rw [if_neg g]
    rw [rs3_1 g] at h'
    exact fun n hn => h' _ (hL.grow (GROW.stopr hn))
def w_lineChar (p0 p1 : Int32) : LX Int32 := lqe fun S => rs3 (gK S p0.toInt && decide (0 ≤ p1.toInt ∧ p1.toInt < (lineL S p0.toInt).length)) true true (I ((lineL S p0.toInt).getD p1.toInt.toNat 0))
theorem E_L_lineChar (sv : Nat) (p0 p1 : Int32) : LMH yL_lineChar cL_lineChar 4 (some .int) [(0, 6, 7, 16)] 8 178 14 372 [.ref sv, .int p0, .int p1] sv (w_lineChar p0 p1) := fun l D DA Hs mm R htr hP => by
  obtain ⟨L, hL, h⟩ := hP
  obtain ⟨z0, l0, u0, rfl⟩ := I_of p0
  obtain ⟨z1, l1, u1, rfl⟩ := I_of p1
  obtain ⟨G, hC⟩ := hL.1
  unfold w_lineChar at h
  simp only [toInt_I l0 u0, toInt_I l1 u1] at h
  have h' : ∀ m', LR sv L m' → R (.ok (some (.int (lres (rs3 (gK (zS L) z0 && decide (0 ≤ z1 ∧ z1 < (lineL (zS L) z0).length)) true true (I ((lineL (zS L) z0).getD z1.toNat 0))))))) m' := h
  refine E0_L_lineChar sv G (zS L) (zT L) z0 z1 l D DA Hs mm R htr ⟨hC, hL.2.1, hL.2.1.wr.nn.2.1, ⟨l0, u0⟩, ⟨l1, u1⟩, fun m' hg => ?_⟩
  by_cases g : (gK (zS L) z0 && decide (0 ≤ z1 ∧ z1 < (lineL (zS L) z0).length)) = true
  · rw [if_pos g]
    rw [rs3_4 g rfl rfl] at h'
    exact h' m' (hL.grow hg)
  · rw [if_neg g]
    rw [rs3_1 g] at h'
    exact fun n hn => h' _ ((hL.grow hg).grow (GROW.stopr hn))
