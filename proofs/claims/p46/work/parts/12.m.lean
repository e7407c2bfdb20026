theorem dX4_withInvited_0 : decode cX4_withInvited 0 = .ok (.new 10, 3) := by decide +kernel
theorem dX4_withInvited_3 : decode cX4_withInvited 3 = .ok (.dup, 1) := by decide +kernel
theorem dX4_withInvited_4 : decode cX4_withInvited 4 = .ok (.aload_n 0, 1) := by decide +kernel
theorem dX4_withInvited_5 : decode cX4_withInvited 5 = .ok (.invokespecial 74, 3) := by decide +kernel
theorem dX4_withInvited_8 : decode cX4_withInvited 8 = .ok (.astore_n 2, 1) := by decide +kernel
theorem dX4_withInvited_9 : decode cX4_withInvited 9 = .ok (.aload_n 2, 1) := by decide +kernel
theorem dX4_withInvited_10 : decode cX4_withInvited 10 = .ok (.dup, 1) := by decide +kernel
theorem dX4_withInvited_11 : decode cX4_withInvited 11 = .ok (.getfield 64, 3) := by decide +kernel
theorem dX4_withInvited_14 : decode cX4_withInvited 14 = .ok (.iconst 1, 1) := by decide +kernel
theorem dX4_withInvited_15 : decode cX4_withInvited 15 = .ok (.iload_n 1, 1) := by decide +kernel
theorem dX4_withInvited_16 : decode cX4_withInvited 16 = .ok (.ishl, 1) := by decide +kernel
theorem dX4_withInvited_17 : decode cX4_withInvited 17 = .ok (.ior, 1) := by decide +kernel
theorem dX4_withInvited_18 : decode cX4_withInvited 18 = .ok (.putfield 64, 3) := by decide +kernel
theorem dX4_withInvited_21 : decode cX4_withInvited 21 = .ok (.aload_n 2, 1) := by decide +kernel
theorem dX4_withInvited_22 : decode cX4_withInvited 22 = .ok (.dup, 1) := by decide +kernel
theorem dX4_withInvited_23 : decode cX4_withInvited 23 = .ok (.getfield 67, 3) := by decide +kernel
theorem dX4_withInvited_26 : decode cX4_withInvited 26 = .ok (.iconst 1, 1) := by decide +kernel
theorem dX4_withInvited_27 : decode cX4_withInvited 27 = .ok (.iload_n 1, 1) := by decide +kernel
theorem dX4_withInvited_28 : decode cX4_withInvited 28 = .ok (.ishl, 1) := by decide +kernel
theorem dX4_withInvited_29 : decode cX4_withInvited 29 = .ok (.iconst (-1), 1) := by decide +kernel
theorem dX4_withInvited_30 : decode cX4_withInvited 30 = .ok (.ixor, 1) := by decide +kernel
theorem dX4_withInvited_31 : decode cX4_withInvited 31 = .ok (.iand, 1) := by decide +kernel
theorem dX4_withInvited_32 : decode cX4_withInvited 32 = .ok (.putfield 67, 3) := by decide +kernel
theorem dX4_withInvited_35 : decode cX4_withInvited 35 = .ok (.aload_n 2, 1) := by decide +kernel
theorem dX4_withInvited_36 : decode cX4_withInvited 36 = .ok (.areturn, 1) := by decide +kernel
theorem lk_X4_withInvited : LK yX4_withInvited cX4_withInvited 3 (some (.object "MeetingServer$Version")) 1 := ⟨qW_at 1149 (by decide +kernel) rfl, qW_at 42 (by decide +kernel) rfl, by decide, by decide, by decide +kernel⟩
theorem im_X4_withInvited : Cond.instanceMethod yX4_withInvited ∈ qW := qW_at 1147 (by decide +kernel) rfl
theorem se_X4_withInvited : Cond.selects RX4 yX4_withInvited yX4_withInvited ∈ qW := qW_at 1148 (by decide +kernel) rfl
def F_X4_withInvited (this : Nat) (person_ : Int32) : QX (Option Nat) :=
  (xb (xb (xnew 5) fun r1 => xb (xb (xp (some this)) fun v2 => xo 5 r1 fun q => F_X4_init_ q v2) fun _ => xp r1) fun next_4 =>
  (xb (xb (xp next_4) fun v7 => xb (xgi 5 14 v7) fun v8 => xb (xb (xp (1 : Int32)) fun v5 => xb (xp person_) fun v6 => (xp (v5 <<< (v6 &&& 31)))) fun v9 => xb (xp (v8 ||| v9)) fun v10 => xsi 5 14 v7 v10) fun _ =>
  (xb (xb (xp next_4) fun v15 => xb (xgi 5 15 v15) fun v16 => xb (xb (xb (xp (1 : Int32)) fun v11 => xb (xp person_) fun v12 => (xp (v11 <<< (v12 &&& 31)))) fun v13 => xb (xp (-1 : Int32)) fun v14 => xp (v13 ^^^ v14)) fun v17 => xb (xp (v16 &&& v17)) fun v18 => xsi 5 15 v15 v18) fun _ =>
  (xp next_4))))
set_option maxRecDepth 100000 in
set_option maxHeartbeats 4000000 in
theorem M_X4_withInvited (this : Nat) (person_ : Int32) : MM yX4_withInvited cX4_withInvited 3 (some (.object "MeetingServer$Version")) 2 33 1 17 encR [.ref this, .int person_] (F_X4_withInvited this person_) := by
  refine MM_of (env0 := [(0, va_rf (some this)), (1, .int person_)]) (by decide) (by exact Nat.le_of_ble_eq_true rfl) (by rfl) (fun k mm res X C hR hN hr hname h => ?_)
  have X : CX k cX4_withInvited RX4 := X
  have hT : TH k (fun e m' => res = (.error e, m')) := TH_of C
  have htr := C.2.2.2.1
  unfold F_X4_withInvited at h
  exact SB_go (T := fun e m' => res = (.error e, m')) (RET := fun v m' => res = (.ok v, m')) (SB_let (XE_new (c := 5) (ks0 := 17) (kc0 := 1) (fun st mm a b hc hs h => g_new (c := 5) tyX4 X rfl inW4 tyX4_ok cl_X4_10 in_4 ii_4 (by decide +kernel) hc hs dX4_withInvited_0 h) (S_dup X dX4_withInvited_3) (OP_args1  (L_aload_n (r := (some this)) 0 X dX4_withInvited_4 rfl rfl) (fun r v0 st mm a b hd hc hs h => g_callIo (st := st) (cI := 5) X hT htr (fun q => M_X4_init_ q v0) lk_X4_init_ im_X4_init_ rfl ml_X4_74 rfl (by rw [hR]; exact ⟨Nat.le_of_ble_eq_true rfl, Nat.le_of_ble_eq_true rfl⟩) (Nat.le_trans hd (by decide)) ⟨hc, hs⟩ dX4_withInvited_5 h)) rfl) (S_astore_n (ev := fun next_4 => [(2, va_rf next_4), (0, va_rf (some this)), (1, .int person_)]) X dX4_withInvited_8 rfl (by rw [hN]; decide) (fun _ => rfl)) fun next_4 =>
  (SB_do (XE_dup wI (L_aload_n (r := next_4) 0 X dX4_withInvited_9 rfl rfl) (S_dup X dX4_withInvited_10) (O_gi (c := 5) (j := 14) X rfl inW4 (by decide) fl_X4_64 rfl dX4_withInvited_11) (XE_2 wI (L_iconst (v := 1) X dX4_withInvited_14 (by decide)) (L_iload_n (x := person_) 2 X dX4_withInvited_15 rfl rfl) (O_ishl X dX4_withInvited_16)) (O_ior X dX4_withInvited_17) (O_si (c := 5) (j := 14) tyX4 X rfl inW4 tyX4_ok nmX4 (by decide) fl_X4_64 (Or.inl rfl) rfl (by decide +kernel) dX4_withInvited_18))
  (SB_do (XE_dup wI (L_aload_n (r := next_4) 0 X dX4_withInvited_21 rfl rfl) (S_dup X dX4_withInvited_22) (O_gi (c := 5) (j := 15) X rfl inW4 (by decide) fl_X4_67 rfl dX4_withInvited_23) (XE_2 wI (XE_2 wI (L_iconst (v := 1) X dX4_withInvited_26 (by decide)) (L_iload_n (x := person_) 2 X dX4_withInvited_27 rfl rfl) (O_ishl X dX4_withInvited_28)) (L_iconst (v := (-1)) X dX4_withInvited_29 (by decide)) (O_ixor X dX4_withInvited_30)) (O_iand X dX4_withInvited_31) (O_si (c := 5) (j := 15) tyX4 X rfl inW4 tyX4_ok nmX4 (by decide) fl_X4_67 (Or.inl rfl) rfl (by decide +kernel) dX4_withInvited_32))
  (SB_retR X C hr (Or.inl ⟨_, rfl⟩) dX4_withInvited_36 (L_aload_n (r := next_4) 0 X dX4_withInvited_35 rfl rfl))))) h (by rw [hR]; decide) (by rw [hR]; decide)
theorem dX4_withLeftOut_0 : decode cX4_withLeftOut 0 = .ok (.new 10, 3) := by decide +kernel
theorem dX4_withLeftOut_3 : decode cX4_withLeftOut 3 = .ok (.dup, 1) := by decide +kernel
theorem dX4_withLeftOut_4 : decode cX4_withLeftOut 4 = .ok (.aload_n 0, 1) := by decide +kernel
theorem dX4_withLeftOut_5 : decode cX4_withLeftOut 5 = .ok (.invokespecial 74, 3) := by decide +kernel
theorem dX4_withLeftOut_8 : decode cX4_withLeftOut 8 = .ok (.astore_n 2, 1) := by decide +kernel
theorem dX4_withLeftOut_9 : decode cX4_withLeftOut 9 = .ok (.aload_n 2, 1) := by decide +kernel
theorem dX4_withLeftOut_10 : decode cX4_withLeftOut 10 = .ok (.dup, 1) := by decide +kernel
theorem dX4_withLeftOut_11 : decode cX4_withLeftOut 11 = .ok (.getfield 64, 3) := by decide +kernel
theorem dX4_withLeftOut_14 : decode cX4_withLeftOut 14 = .ok (.iconst 1, 1) := by decide +kernel
theorem dX4_withLeftOut_15 : decode cX4_withLeftOut 15 = .ok (.iload_n 1, 1) := by decide +kernel
theorem dX4_withLeftOut_16 : decode cX4_withLeftOut 16 = .ok (.ishl, 1) := by decide +kernel
theorem dX4_withLeftOut_17 : decode cX4_withLeftOut 17 = .ok (.iconst (-1), 1) := by decide +kernel
theorem dX4_withLeftOut_18 : decode cX4_withLeftOut 18 = .ok (.ixor, 1) := by decide +kernel
theorem dX4_withLeftOut_19 : decode cX4_withLeftOut 19 = .ok (.iand, 1) := by decide +kernel
theorem dX4_withLeftOut_20 : decode cX4_withLeftOut 20 = .ok (.putfield 64, 3) := by decide +kernel
theorem dX4_withLeftOut_23 : decode cX4_withLeftOut 23 = .ok (.aload_n 2, 1) := by decide +kernel
theorem dX4_withLeftOut_24 : decode cX4_withLeftOut 24 = .ok (.dup, 1) := by decide +kernel
theorem dX4_withLeftOut_25 : decode cX4_withLeftOut 25 = .ok (.getfield 67, 3) := by decide +kernel
theorem dX4_withLeftOut_28 : decode cX4_withLeftOut 28 = .ok (.iconst 1, 1) := by decide +kernel
theorem dX4_withLeftOut_29 : decode cX4_withLeftOut 29 = .ok (.iload_n 1, 1) := by decide +kernel
theorem dX4_withLeftOut_30 : decode cX4_withLeftOut 30 = .ok (.ishl, 1) := by decide +kernel
theorem dX4_withLeftOut_31 : decode cX4_withLeftOut 31 = .ok (.ior, 1) := by decide +kernel
theorem dX4_withLeftOut_32 : decode cX4_withLeftOut 32 = .ok (.putfield 67, 3) := by decide +kernel
theorem dX4_withLeftOut_35 : decode cX4_withLeftOut 35 = .ok (.aload_n 2, 1) := by decide +kernel
theorem dX4_withLeftOut_36 : decode cX4_withLeftOut 36 = .ok (.areturn, 1) := by decide +kernel
theorem lk_X4_withLeftOut : LK yX4_withLeftOut cX4_withLeftOut 3 (some (.object "MeetingServer$Version")) 1 := ⟨qW_at 1153 (by decide +kernel) rfl, qW_at 42 (by decide +kernel) rfl, by decide, by decide, by decide +kernel⟩
theorem im_X4_withLeftOut : Cond.instanceMethod yX4_withLeftOut ∈ qW := qW_at 1151 (by decide +kernel) rfl
theorem se_X4_withLeftOut : Cond.selects RX4 yX4_withLeftOut yX4_withLeftOut ∈ qW := qW_at 1152 (by decide +kernel) rfl
def F_X4_withLeftOut (this : Nat) (person_ : Int32) : QX (Option Nat) :=
  (xb (xb (xnew 5) fun r1 => xb (xb (xp (some this)) fun v2 => xo 5 r1 fun q => F_X4_init_ q v2) fun _ => xp r1) fun next_4 =>
  (xb (xb (xp next_4) fun v9 => xb (xgi 5 14 v9) fun v10 => xb (xb (xb (xp (1 : Int32)) fun v5 => xb (xp person_) fun v6 => (xp (v5 <<< (v6 &&& 31)))) fun v7 => xb (xp (-1 : Int32)) fun v8 => xp (v7 ^^^ v8)) fun v11 => xb (xp (v10 &&& v11)) fun v12 => xsi 5 14 v9 v12) fun _ =>
  (xb (xb (xp next_4) fun v15 => xb (xgi 5 15 v15) fun v16 => xb (xb (xp (1 : Int32)) fun v13 => xb (xp person_) fun v14 => (xp (v13 <<< (v14 &&& 31)))) fun v17 => xb (xp (v16 ||| v17)) fun v18 => xsi 5 15 v15 v18) fun _ =>
  (xp next_4))))
set_option maxRecDepth 100000 in
set_option maxHeartbeats 4000000 in
theorem M_X4_withLeftOut (this : Nat) (person_ : Int32) : MM yX4_withLeftOut cX4_withLeftOut 3 (some (.object "MeetingServer$Version")) 2 33 1 17 encR [.ref this, .int person_] (F_X4_withLeftOut this person_) := by
  refine MM_of (env0 := [(0, va_rf (some this)), (1, .int person_)]) (by decide) (by exact Nat.le_of_ble_eq_true rfl) (by rfl) (fun k mm res X C hR hN hr hname h => ?_)
  have X : CX k cX4_withLeftOut RX4 := X
  have hT : TH k (fun e m' => res = (.error e, m')) := TH_of C
  have htr := C.2.2.2.1
  unfold F_X4_withLeftOut at h
  exact SB_go (T := fun e m' => res = (.error e, m')) (RET := fun v m' => res = (.ok v, m')) (SB_let (XE_new (c := 5) (ks0 := 17) (kc0 := 1) (fun st mm a b hc hs h => g_new (c := 5) tyX4 X rfl inW4 tyX4_ok cl_X4_10 in_4 ii_4 (by decide +kernel) hc hs dX4_withLeftOut_0 h) (S_dup X dX4_withLeftOut_3) (OP_args1  (L_aload_n (r := (some this)) 0 X dX4_withLeftOut_4 rfl rfl) (fun r v0 st mm a b hd hc hs h => g_callIo (st := st) (cI := 5) X hT htr (fun q => M_X4_init_ q v0) lk_X4_init_ im_X4_init_ rfl ml_X4_74 rfl (by rw [hR]; exact ⟨Nat.le_of_ble_eq_true rfl, Nat.le_of_ble_eq_true rfl⟩) (Nat.le_trans hd (by decide)) ⟨hc, hs⟩ dX4_withLeftOut_5 h)) rfl) (S_astore_n (ev := fun next_4 => [(2, va_rf next_4), (0, va_rf (some this)), (1, .int person_)]) X dX4_withLeftOut_8 rfl (by rw [hN]; decide) (fun _ => rfl)) fun next_4 =>
  (SB_do (XE_dup wI (L_aload_n (r := next_4) 0 X dX4_withLeftOut_9 rfl rfl) (S_dup X dX4_withLeftOut_10) (O_gi (c := 5) (j := 14) X rfl inW4 (by decide) fl_X4_64 rfl dX4_withLeftOut_11) (XE_2 wI (XE_2 wI (L_iconst (v := 1) X dX4_withLeftOut_14 (by decide)) (L_iload_n (x := person_) 2 X dX4_withLeftOut_15 rfl rfl) (O_ishl X dX4_withLeftOut_16)) (L_iconst (v := (-1)) X dX4_withLeftOut_17 (by decide)) (O_ixor X dX4_withLeftOut_18)) (O_iand X dX4_withLeftOut_19) (O_si (c := 5) (j := 14) tyX4 X rfl inW4 tyX4_ok nmX4 (by decide) fl_X4_64 (Or.inl rfl) rfl (by decide +kernel) dX4_withLeftOut_20))
  (SB_do (XE_dup wI (L_aload_n (r := next_4) 0 X dX4_withLeftOut_23 rfl rfl) (S_dup X dX4_withLeftOut_24) (O_gi (c := 5) (j := 15) X rfl inW4 (by decide) fl_X4_67 rfl dX4_withLeftOut_25) (XE_2 wI (L_iconst (v := 1) X dX4_withLeftOut_28 (by decide)) (L_iload_n (x := person_) 2 X dX4_withLeftOut_29 rfl rfl) (O_ishl X dX4_withLeftOut_30)) (O_ior X dX4_withLeftOut_31) (O_si (c := 5) (j := 15) tyX4 X rfl inW4 tyX4_ok nmX4 (by decide) fl_X4_67 (Or.inl rfl) rfl (by decide +kernel) dX4_withLeftOut_32))
  (SB_retR X C hr (Or.inl ⟨_, rfl⟩) dX4_withLeftOut_36 (L_aload_n (r := next_4) 0 X dX4_withLeftOut_35 rfl rfl))))) h (by rw [hR]; decide) (by rw [hR]; decide)
theorem dX4_withCancel_0 : decode cX4_withCancel 0 = .ok (.new 10, 3) := by decide +kernel
theorem dX4_withCancel_3 : decode cX4_withCancel 3 = .ok (.dup, 1) := by decide +kernel
theorem dX4_withCancel_4 : decode cX4_withCancel 4 = .ok (.aload_n 0, 1) := by decide +kernel
theorem dX4_withCancel_5 : decode cX4_withCancel 5 = .ok (.invokespecial 74, 3) := by decide +kernel
theorem dX4_withCancel_8 : decode cX4_withCancel 8 = .ok (.astore_n 1, 1) := by decide +kernel
theorem dX4_withCancel_9 : decode cX4_withCancel 9 = .ok (.aload_n 1, 1) := by decide +kernel
theorem dX4_withCancel_10 : decode cX4_withCancel 10 = .ok (.iconst 1, 1) := by decide +kernel
theorem dX4_withCancel_11 : decode cX4_withCancel 11 = .ok (.putfield 70, 3) := by decide +kernel
theorem dX4_withCancel_14 : decode cX4_withCancel 14 = .ok (.aload_n 1, 1) := by decide +kernel
theorem dX4_withCancel_15 : decode cX4_withCancel 15 = .ok (.areturn, 1) := by decide +kernel
theorem lk_X4_withCancel : LK yX4_withCancel cX4_withCancel 2 (some (.object "MeetingServer$Version")) 0 := ⟨qW_at 1164 (by decide +kernel) rfl, qW_at 42 (by decide +kernel) rfl, by decide, by decide, by decide +kernel⟩
theorem im_X4_withCancel : Cond.instanceMethod yX4_withCancel ∈ qW := qW_at 1162 (by decide +kernel) rfl
theorem se_X4_withCancel : Cond.selects RX4 yX4_withCancel yX4_withCancel ∈ qW := qW_at 1163 (by decide +kernel) rfl
def F_X4_withCancel (this : Nat) : QX (Option Nat) :=
  (xb (xb (xnew 5) fun r1 => xb (xb (xp (some this)) fun v2 => xo 5 r1 fun q => F_X4_init_ q v2) fun _ => xp r1) fun next_4 =>
  (xb (xb (xp next_4) fun v5 => xb (xp (1 : Int32)) fun v6 => xsz 5 16 v5 v6) fun _ =>
  (xp next_4)))
set_option maxRecDepth 100000 in
set_option maxHeartbeats 4000000 in
theorem M_X4_withCancel (this : Nat) : MM yX4_withCancel cX4_withCancel 2 (some (.object "MeetingServer$Version")) 2 33 1 17 encR [.ref this] (F_X4_withCancel this) := by
  refine MM_of (env0 := [(0, va_rf (some this))]) (by decide) (by exact Nat.le_of_ble_eq_true rfl) (by rfl) (fun k mm res X C hR hN hr hname h => ?_)
  have X : CX k cX4_withCancel RX4 := X
  have hT : TH k (fun e m' => res = (.error e, m')) := TH_of C
  have htr := C.2.2.2.1
  unfold F_X4_withCancel at h
  exact SB_go (T := fun e m' => res = (.error e, m')) (RET := fun v m' => res = (.ok v, m')) (SB_let (XE_new (c := 5) (ks0 := 17) (kc0 := 1) (fun st mm a b hc hs h => g_new (c := 5) tyX4 X rfl inW4 tyX4_ok cl_X4_10 in_4 ii_4 (by decide +kernel) hc hs dX4_withCancel_0 h) (S_dup X dX4_withCancel_3) (OP_args1  (L_aload_n (r := (some this)) 0 X dX4_withCancel_4 rfl rfl) (fun r v0 st mm a b hd hc hs h => g_callIo (st := st) (cI := 5) X hT htr (fun q => M_X4_init_ q v0) lk_X4_init_ im_X4_init_ rfl ml_X4_74 rfl (by rw [hR]; exact ⟨Nat.le_of_ble_eq_true rfl, Nat.le_of_ble_eq_true rfl⟩) (Nat.le_trans hd (by decide)) ⟨hc, hs⟩ dX4_withCancel_5 h)) rfl) (S_astore_n (ev := fun next_4 => [(1, va_rf next_4), (0, va_rf (some this))]) X dX4_withCancel_8 rfl (by rw [hN]; decide) (fun _ => rfl)) fun next_4 =>
  (SB_do (XE_2 wR (L_aload_n (r := next_4) 0 X dX4_withCancel_9 rfl rfl) (L_iconst (v := 1) X dX4_withCancel_10 (by decide)) (O_sz (c := 5) (j := 16) tyX4 X rfl inW4 tyX4_ok nmX4 (by decide) fl_X4_70 (Or.inl rfl) rfl (by decide +kernel) dX4_withCancel_11))
  (SB_retR X C hr (Or.inl ⟨_, rfl⟩) dX4_withCancel_15 (L_aload_n (r := next_4) 0 X dX4_withCancel_14 rfl rfl)))) h (by rw [hR]; decide) (by rw [hR]; decide)
theorem dX4_standOf_0 : decode cX4_standOf 0 = .ok (.iload_n 1, 1) := by decide +kernel
theorem dX4_standOf_1 : decode cX4_standOf 1 = .ok (.invokestatic 87, 3) := by decide +kernel
theorem dX4_standOf_4 : decode cX4_standOf 4 = .ok (.ifCond .eq 12, 3) := by decide +kernel
theorem dX4_standOf_7 : decode cX4_standOf 7 = .ok (.aload_n 0, 1) := by decide +kernel
theorem dX4_standOf_8 : decode cX4_standOf 8 = .ok (.getfield 45, 3) := by decide +kernel
theorem dX4_standOf_11 : decode cX4_standOf 11 = .ok (.iload_n 1, 1) := by decide +kernel
theorem dX4_standOf_12 : decode cX4_standOf 12 = .ok (.iaload, 1) := by decide +kernel
theorem dX4_standOf_13 : decode cX4_standOf 13 = .ok (.goto 4, 3) := by decide +kernel
theorem dX4_standOf_16 : decode cX4_standOf 16 = .ok (.iconst 0, 1) := by decide +kernel
theorem dX4_standOf_17 : decode cX4_standOf 17 = .ok (.ireturn, 1) := by decide +kernel
theorem lk_X4_standOf : LK yX4_standOf cX4_standOf 2 (some .int) 1 := ⟨qW_at 275 (by decide +kernel) rfl, qW_at 42 (by decide +kernel) rfl, by decide, by decide, by decide +kernel⟩
theorem im_X4_standOf : Cond.instanceMethod yX4_standOf ∈ qW := qW_at 273 (by decide +kernel) rfl
theorem se_X4_standOf : Cond.selects RX4 yX4_standOf yX4_standOf ∈ qW := qW_at 274 (by decide +kernel) rfl
def F_X4_standOf (this : Nat) (day_ : Int32) : QX Int32 :=
  (xb (xb (xb (xp day_) fun v1 => F_X6_isDay v1) fun v2 => xp (decide (¬ v2 = 0))) fun v6 => if v6 then (xb (xb (xp (some this)) fun v3 => xgr 5 13 v3) fun v4 => xb (xp day_) fun v5 => xai 0 v4 v5) else (xp (0 : Int32)))
set_option maxRecDepth 100000 in
set_option maxHeartbeats 4000000 in
theorem M_X4_standOf (this : Nat) (day_ : Int32) : MM yX4_standOf cX4_standOf 2 (some .int) 1 20 0 0 encI [.ref this, .int day_] (F_X4_standOf this day_) := by
  refine MM_of (env0 := [(0, va_rf (some this)), (1, .int day_)]) (by decide) (by exact Nat.le_of_ble_eq_true rfl) (by rfl) (fun k mm res X C hR hN hr hname h => ?_)
  have X : CX k cX4_standOf RX4 := X
  have hT : TH k (fun e m' => res = (.error e, m')) := TH_of C
  have htr := C.2.2.2.1
  unfold F_X4_standOf at h
  exact SB_go (T := fun e m' => res = (.error e, m')) (RET := fun v m' => res = (.ok v, m')) (SB_retI X C hr dX4_standOf_17 (XE_tern (CE_1 (XE_1 (pB := pI)  (L_iload_n (x := day_) 1 X dX4_standOf_0 rfl rfl) (fun v0 st mm a b hd hc hs h => g_callSN (st := st) X hT htr (M_X6_isDay v0) lk_X6_isDay st_X6_isDay ml_X4_87 rfl (by rw [hR]; exact ⟨Nat.le_of_ble_eq_true rfl, Nat.le_of_ble_eq_true rfl⟩) (Nat.le_trans hd (by decide)) ⟨hc, hs⟩ dX4_standOf_1 h)) (Z_ne_F X dX4_standOf_4 (by decide))) (XE_2 wR (XE_1 (L_aload_n (r := (some this)) 0 X dX4_standOf_7 rfl rfl) (O_gr (c := 5) (j := 13) X rfl inW4 (by decide) fl_X4_45 rfl dX4_standOf_8)) (L_iload_n (x := day_) 1 X dX4_standOf_11 rfl rfl) (O_ai X dX4_standOf_12)) (S_goto X dX4_standOf_13 (by decide)) (L_iconst (v := 0) X dX4_standOf_16 (by decide)))) h (by rw [hR]; decide) (by rw [hR]; decide)
theorem dX4_beginOf_0 : decode cX4_beginOf 0 = .ok (.iload_n 1, 1) := by decide +kernel
theorem dX4_beginOf_1 : decode cX4_beginOf 1 = .ok (.invokestatic 87, 3) := by decide +kernel
theorem dX4_beginOf_4 : decode cX4_beginOf 4 = .ok (.ifCond .eq 12, 3) := by decide +kernel
theorem dX4_beginOf_7 : decode cX4_beginOf 7 = .ok (.aload_n 0, 1) := by decide +kernel
theorem dX4_beginOf_8 : decode cX4_beginOf 8 = .ok (.getfield 41, 3) := by decide +kernel
theorem dX4_beginOf_11 : decode cX4_beginOf 11 = .ok (.iload_n 1, 1) := by decide +kernel
theorem dX4_beginOf_12 : decode cX4_beginOf 12 = .ok (.iaload, 1) := by decide +kernel
theorem dX4_beginOf_13 : decode cX4_beginOf 13 = .ok (.goto 4, 3) := by decide +kernel
theorem dX4_beginOf_16 : decode cX4_beginOf 16 = .ok (.iconst (-1), 1) := by decide +kernel
theorem dX4_beginOf_17 : decode cX4_beginOf 17 = .ok (.istore_n 2, 1) := by decide +kernel
theorem dX4_beginOf_18 : decode cX4_beginOf 18 = .ok (.aload_n 0, 1) := by decide +kernel
theorem dX4_beginOf_19 : decode cX4_beginOf 19 = .ok (.getfield 24, 3) := by decide +kernel
theorem dX4_beginOf_22 : decode cX4_beginOf 22 = .ok (.iload_n 2, 1) := by decide +kernel
theorem dX4_beginOf_23 : decode cX4_beginOf 23 = .ok (.iconst (-1), 1) := by decide +kernel
theorem dX4_beginOf_24 : decode cX4_beginOf 24 = .ok (.if_icmp .ne 15, 3) := by decide +kernel
theorem dX4_beginOf_27 : decode cX4_beginOf 27 = .ok (.iload_n 1, 1) := by decide +kernel
theorem dX4_beginOf_28 : decode cX4_beginOf 28 = .ok (.bipush 24, 2) := by decide +kernel
theorem dX4_beginOf_30 : decode cX4_beginOf 30 = .ok (.imul, 1) := by decide +kernel
theorem dX4_beginOf_31 : decode cX4_beginOf 31 = .ok (.aload_n 0, 1) := by decide +kernel
theorem dX4_beginOf_32 : decode cX4_beginOf 32 = .ok (.getfield 31, 3) := by decide +kernel
theorem dX4_beginOf_35 : decode cX4_beginOf 35 = .ok (.iadd, 1) := by decide +kernel
theorem dX4_beginOf_36 : decode cX4_beginOf 36 = .ok (.goto 4, 3) := by decide +kernel
theorem dX4_beginOf_39 : decode cX4_beginOf 39 = .ok (.iload_n 2, 1) := by decide +kernel
theorem dX4_beginOf_40 : decode cX4_beginOf 40 = .ok (.invokevirtual 91, 3) := by decide +kernel
theorem dX4_beginOf_43 : decode cX4_beginOf 43 = .ok (.ireturn, 1) := by decide +kernel
theorem lk_X4_beginOf : LK yX4_beginOf cX4_beginOf 3 (some .int) 1 := ⟨qW_at 253 (by decide +kernel) rfl, qW_at 42 (by decide +kernel) rfl, by decide, by decide, by decide +kernel⟩
theorem im_X4_beginOf : Cond.instanceMethod yX4_beginOf ∈ qW := qW_at 251 (by decide +kernel) rfl
theorem se_X4_beginOf : Cond.selects RX4 yX4_beginOf yX4_beginOf ∈ qW := qW_at 252 (by decide +kernel) rfl
def F_X4_beginOf (this : Nat) (day_ : Int32) : QX Int32 :=
  (xb (xb (xb (xb (xp day_) fun v1 => F_X6_isDay v1) fun v2 => xp (decide (¬ v2 = 0))) fun v6 => if v6 then (xb (xb (xp (some this)) fun v3 => xgr 5 12 v3) fun v4 => xb (xp day_) fun v5 => xai 0 v4 v5) else (xp (-1 : Int32))) fun moved_7 =>
  (xb (xb (xp (some this)) fun v8 => xgr 5 1 v8) fun v17 => xb (xb (xb (xp moved_7) fun v9 => xb (xp (-1 : Int32)) fun v10 => xp (decide (v9 = v10))) fun v16 => if v16 then (xb (xb (xp day_) fun v11 => xb (xp (24 : Int32)) fun v12 => (xp (v11 * v12))) fun v14 => xb (xb (xp (some this)) fun v13 => xgi 5 3 v13) fun v15 => (xp (v14 + v15))) else (xp moved_7)) fun v18 => xo 6 v17 fun q => F_X5_toCommon q v18))
set_option maxRecDepth 100000 in
set_option maxHeartbeats 4000000 in
theorem M_X4_beginOf (this : Nat) (day_ : Int32) : MM yX4_beginOf cX4_beginOf 3 (some .int) 3 64 0 0 encI [.ref this, .int day_] (F_X4_beginOf this day_) := by
  refine MM_of (env0 := [(0, va_rf (some this)), (1, .int day_)]) (by decide) (by exact Nat.le_of_ble_eq_true rfl) (by rfl) (fun k mm res X C hR hN hr hname h => ?_)
  have X : CX k cX4_beginOf RX4 := X
  have hT : TH k (fun e m' => res = (.error e, m')) := TH_of C
  have htr := C.2.2.2.1
  unfold F_X4_beginOf at h
  exact SB_go (T := fun e m' => res = (.error e, m')) (RET := fun v m' => res = (.ok v, m')) (SB_let (XE_tern (CE_1 (XE_1 (pB := pI)  (L_iload_n (x := day_) 1 X dX4_beginOf_0 rfl rfl) (fun v0 st mm a b hd hc hs h => g_callSN (st := st) X hT htr (M_X6_isDay v0) lk_X6_isDay st_X6_isDay ml_X4_87 rfl (by rw [hR]; exact ⟨Nat.le_of_ble_eq_true rfl, Nat.le_of_ble_eq_true rfl⟩) (Nat.le_trans hd (by decide)) ⟨hc, hs⟩ dX4_beginOf_1 h)) (Z_ne_F X dX4_beginOf_4 (by decide))) (XE_2 wR (XE_1 (L_aload_n (r := (some this)) 0 X dX4_beginOf_7 rfl rfl) (O_gr (c := 5) (j := 12) X rfl inW4 (by decide) fl_X4_41 rfl dX4_beginOf_8)) (L_iload_n (x := day_) 1 X dX4_beginOf_11 rfl rfl) (O_ai X dX4_beginOf_12)) (S_goto X dX4_beginOf_13 (by decide)) (L_iconst (v := (-1)) X dX4_beginOf_16 (by decide))) (S_istore_n (ev := fun moved_7 => [(2, .int moved_7), (0, va_rf (some this)), (1, .int day_)]) X dX4_beginOf_17 rfl (by rw [hN]; decide) (fun _ => rfl)) fun moved_7 =>
  (SB_retI X C hr dX4_beginOf_43 (XE_2 (pB := pI) wR (XE_1 (L_aload_n (r := (some this)) 1 X dX4_beginOf_18 rfl rfl) (O_gr (c := 5) (j := 1) X rfl inW4 (by decide) fl_X4_24 rfl dX4_beginOf_19)) (XE_tern (CE_2 wI (L_iload_n (x := moved_7) 0 X dX4_beginOf_22 rfl rfl) (L_iconst (v := (-1)) X dX4_beginOf_23 (by decide)) (C_eq_F X dX4_beginOf_24 (by decide))) (XE_2 wI (XE_2 wI (L_iload_n (x := day_) 2 X dX4_beginOf_27 rfl rfl) (L_bipush (v := (24)) X dX4_beginOf_28 (by decide)) (O_imul X dX4_beginOf_30)) (XE_1 (L_aload_n (r := (some this)) 1 X dX4_beginOf_31 rfl rfl) (O_gi (c := 5) (j := 3) X rfl inW4 (by decide) fl_X4_31 rfl dX4_beginOf_32)) (O_iadd X dX4_beginOf_35)) (S_goto X dX4_beginOf_36 (by decide)) (L_iload_n (x := moved_7) 0 X dX4_beginOf_39 rfl rfl)) (fun v0 v1 st mm a b hd hc hs h => g_callVo (st := st) (cI := 6) X hT htr rfl (fun q => M_X5_toCommon q v1) lk_X5_toCommon im_X5_toCommon se_X5_toCommon ml_X4_91 rfl (by rw [hR]; exact ⟨Nat.le_of_ble_eq_true rfl, Nat.le_of_ble_eq_true rfl⟩) (Nat.le_trans hd (by decide)) ⟨hc, hs⟩ dX4_beginOf_40 h)))) h (by rw [hR]; decide) (by rw [hR]; decide)
theorem dX0_init_0 : decode cX0_init 0 = .ok (.aload_n 0, 1) := by decide +kernel
theorem dX0_init_1 : decode cX0_init 1 = .ok (.invokespecial 3, 3) := by decide +kernel
theorem dX0_init_4 : decode cX0_init 4 = .ok (.aload_n 0, 1) := by decide +kernel
theorem dX0_init_5 : decode cX0_init 5 = .ok (.iconst 5, 1) := by decide +kernel
theorem dX0_init_6 : decode cX0_init 6 = .ok (.anewarray 9, 3) := by decide +kernel
theorem dX0_init_9 : decode cX0_init 9 = .ok (.putfield 11, 3) := by decide +kernel
theorem dX0_init_12 : decode cX0_init 12 = .ok (.aload_n 0, 1) := by decide +kernel
theorem dX0_init_13 : decode cX0_init 13 = .ok (.new 17, 3) := by decide +kernel
theorem dX0_init_16 : decode cX0_init 16 = .ok (.dup, 1) := by decide +kernel
theorem dX0_init_17 : decode cX0_init 17 = .ok (.invokespecial 19, 3) := by decide +kernel
theorem dX0_init_20 : decode cX0_init 20 = .ok (.putfield 20, 3) := by decide +kernel
theorem dX0_init_23 : decode cX0_init 23 = .ok (.aload_n 0, 1) := by decide +kernel
theorem dX0_init_24 : decode cX0_init 24 = .ok (.new 17, 3) := by decide +kernel
theorem dX0_init_27 : decode cX0_init 27 = .ok (.dup, 1) := by decide +kernel
theorem dX0_init_28 : decode cX0_init 28 = .ok (.invokespecial 19, 3) := by decide +kernel
theorem dX0_init_31 : decode cX0_init 31 = .ok (.putfield 24, 3) := by decide +kernel
theorem dX0_init_34 : decode cX0_init 34 = .ok (.aload_n 0, 1) := by decide +kernel
theorem dX0_init_35 : decode cX0_init 35 = .ok (.iload_n 1, 1) := by decide +kernel
theorem dX0_init_36 : decode cX0_init 36 = .ok (.putfield 27, 3) := by decide +kernel
theorem dX0_init_39 : decode cX0_init 39 = .ok (.aload_n 0, 1) := by decide +kernel
theorem dX0_init_40 : decode cX0_init 40 = .ok (.iload_n 2, 1) := by decide +kernel
theorem dX0_init_41 : decode cX0_init 41 = .ok (.putfield 31, 3) := by decide +kernel
theorem dX0_init_44 : decode cX0_init 44 = .ok (.aload_n 0, 1) := by decide +kernel
theorem dX0_init_45 : decode cX0_init 45 = .ok (.aload_n 3, 1) := by decide +kernel
theorem dX0_init_46 : decode cX0_init 46 = .ok (.putfield 34, 3) := by decide +kernel
theorem dX0_init_49 : decode cX0_init 49 = .ok (.return_, 1) := by decide +kernel
theorem lk_X0_init : LK yX0_init cX0_init 4 none 3 := ⟨qW_at 996 (by decide +kernel) rfl, qW_at 41 (by decide +kernel) rfl, by decide, by decide, by decide +kernel⟩
theorem im_X0_init : Cond.instanceMethod yX0_init ∈ qW := qW_at 995 (by decide +kernel) rfl
def F_X0_init (this : Nat) (number_ : Int32) (organiser_ : Int32) (first_ : Option Nat) : QX Unit :=
  (xb (xb (xp (some this)) fun v2 => xb (xb (xp (5 : Int32)) fun v1 => xnewr 5 v1 5) fun v3 => xsr 1 3 v2 v3) fun _ =>
  (xb (xb (xp (some this)) fun v6 => xb (xb (xnew 4) fun r4 => xb (xo 4 r4 fun q => F_X3_init q ) fun _ => xp r4) fun v7 => xsr 1 5 v6 v7) fun _ =>
  (xb (xb (xp (some this)) fun v10 => xb (xb (xnew 4) fun r8 => xb (xo 4 r8 fun q => F_X3_init q ) fun _ => xp r8) fun v11 => xsr 1 6 v10 v11) fun _ =>
  (xb (xb (xp (some this)) fun v12 => xb (xp number_) fun v13 => xsi 1 0 v12 v13) fun _ =>
  (xb (xb (xp (some this)) fun v14 => xb (xp organiser_) fun v15 => xsi 1 1 v14 v15) fun _ =>
  (xb (xb (xp (some this)) fun v16 => xb (xp first_) fun v17 => xsr 1 2 v16 v17) fun _ =>
  (xp ())))))))
set_option maxRecDepth 100000 in
set_option maxHeartbeats 4000000 in
theorem M_X0_init (this : Nat) (number_ : Int32) (organiser_ : Int32) (first_ : Option Nat) : MM yX0_init cX0_init 4 none 2 32 5 617 encU [.ref this, .int number_, .int organiser_, va_rf first_] (F_X0_init this number_ organiser_ first_) := by
  refine MM_of (env0 := [(0, va_rf (some this)), (1, .int number_), (2, .int organiser_), (3, va_rf first_)]) (by decide) (by cases first_ <;> exact Nat.le_of_ble_eq_true rfl) (by cases first_ <;> rfl) (fun k mm res X C hR hN hr hname h => ?_)
  have X : CX k cX0_init RX0 := X
  have hT : TH k (fun e m' => res = (.error e, m')) := TH_of C
  have htr := C.2.2.2.1
  unfold F_X0_init at h
  exact SB_go (T := fun e m' => res = (.error e, m')) (RET := fun v m' => res = (.ok v, m')) (SB_pre (env' := [(0, va_rf (some this)), (1, .int number_), (2, .int organiser_), (3, va_rf first_)]) (S_super (j := 0) X dX0_init_0 rfl dX0_init_1 rfl ml_X0_3 oi_in oi_co (by rw [hR]; exact Nat.le_of_ble_eq_true rfl) (by rw [hR]; exact Nat.le_of_ble_eq_true rfl))
  (SB_do (XE_2 wR (L_aload_n (r := (some this)) 0 X dX0_init_4 rfl rfl) (XE_1 (L_iconst (v := 5) X dX0_init_5 (by decide)) (O_newr (cap := 5) (c := 5) X cl_X0_9 ao_4 (by decide) rfl (by decide) dX0_init_6)) (O_sr (c := 1) (j := 3) tyX0 X rfl inW0 tyX0_ok nmX0 (by decide) fl_X0_11 (Or.inr ⟨hname, rfl, rfl⟩) rfl (by decide +kernel : parseFieldDescriptor (TX0 3).2.2.1 = some (.array (.object "MeetingServer$Version"))) (Or.inr ⟨_, rfl⟩) dX0_init_9))
  (SB_do (XE_2 wR (L_aload_n (r := (some this)) 0 X dX0_init_12 rfl rfl) (XE_new (c := 4) (ks0 := 1) (kc0 := 2) (fun st mm a b hc hs h => g_new (c := 4) tyX3 X rfl inW3 tyX3_ok cl_X0_17 in_3 ii_3 (by decide +kernel) hc hs dX0_init_13 h) (S_dup X dX0_init_16) (show OP1 k _ pR pU _ _ _ _ _ _ _ from (fun r  st mm a b hd hc hs h => g_callINo (st := st) (cI := 4) X hT htr (fun q => M_X3_init q ) lk_X3_init im_X3_init rfl ml_X0_19 rfl (by rw [hR]; exact ⟨Nat.le_of_ble_eq_true rfl, Nat.le_of_ble_eq_true rfl⟩) (Nat.le_trans hd (by decide)) ⟨hc, hs⟩ dX0_init_17 h)) rfl) (O_sr (c := 1) (j := 5) tyX0 X rfl inW0 tyX0_ok nmX0 (by decide) fl_X0_20 (Or.inr ⟨hname, rfl, rfl⟩) rfl (by decide +kernel : parseFieldDescriptor (TX0 5).2.2.1 = some (.object "MeetingServer$ReplyBook")) (Or.inl ⟨_, rfl⟩) dX0_init_20))
  (SB_do (XE_2 wR (L_aload_n (r := (some this)) 0 X dX0_init_23 rfl rfl) (XE_new (c := 4) (ks0 := 1) (kc0 := 2) (fun st mm a b hc hs h => g_new (c := 4) tyX3 X rfl inW3 tyX3_ok cl_X0_17 in_3 ii_3 (by decide +kernel) hc hs dX0_init_24 h) (S_dup X dX0_init_27) (show OP1 k _ pR pU _ _ _ _ _ _ _ from (fun r  st mm a b hd hc hs h => g_callINo (st := st) (cI := 4) X hT htr (fun q => M_X3_init q ) lk_X3_init im_X3_init rfl ml_X0_19 rfl (by rw [hR]; exact ⟨Nat.le_of_ble_eq_true rfl, Nat.le_of_ble_eq_true rfl⟩) (Nat.le_trans hd (by decide)) ⟨hc, hs⟩ dX0_init_28 h)) rfl) (O_sr (c := 1) (j := 6) tyX0 X rfl inW0 tyX0_ok nmX0 (by decide) fl_X0_24 (Or.inr ⟨hname, rfl, rfl⟩) rfl (by decide +kernel : parseFieldDescriptor (TX0 6).2.2.1 = some (.object "MeetingServer$ReplyBook")) (Or.inl ⟨_, rfl⟩) dX0_init_31))
  (SB_do (XE_2 wR (L_aload_n (r := (some this)) 0 X dX0_init_34 rfl rfl) (L_iload_n (x := number_) 1 X dX0_init_35 rfl rfl) (O_si (c := 1) (j := 0) tyX0 X rfl inW0 tyX0_ok nmX0 (by decide) fl_X0_27 (Or.inr ⟨hname, rfl, rfl⟩) rfl (by decide +kernel) dX0_init_36))
  (SB_do (XE_2 wR (L_aload_n (r := (some this)) 0 X dX0_init_39 rfl rfl) (L_iload_n (x := organiser_) 2 X dX0_init_40 rfl rfl) (O_si (c := 1) (j := 1) tyX0 X rfl inW0 tyX0_ok nmX0 (by decide) fl_X0_31 (Or.inr ⟨hname, rfl, rfl⟩) rfl (by decide +kernel) dX0_init_41))
  (SB_do (XE_2 wR (L_aload_n (r := (some this)) 0 X dX0_init_44 rfl rfl) (L_aload_n (r := first_) 3 X dX0_init_45 rfl rfl) (O_sr (c := 1) (j := 2) tyX0 X rfl inW0 tyX0_ok nmX0 (by decide) fl_X0_34 (Or.inl rfl) rfl (by decide +kernel : parseFieldDescriptor (TX0 2).2.2.1 = some (.object "MeetingServer$Version")) (Or.inl ⟨_, rfl⟩) dX0_init_46))
  (SB_retU X C hr dX0_init_49)))))))) h (by rw [hR]; decide) (by rw [hR]; decide)
theorem dX0_versionOf_0 : decode cX0_versionOf 0 = .ok (.iload_n 1, 1) := by decide +kernel
theorem dX0_versionOf_1 : decode cX0_versionOf 1 = .ok (.ifCond .lt 8, 3) := by decide +kernel
theorem dX0_versionOf_4 : decode cX0_versionOf 4 = .ok (.iload_n 1, 1) := by decide +kernel
theorem dX0_versionOf_5 : decode cX0_versionOf 5 = .ok (.iconst 5, 1) := by decide +kernel
theorem dX0_versionOf_6 : decode cX0_versionOf 6 = .ok (.if_icmp .lt 5, 3) := by decide +kernel
theorem dX0_versionOf_9 : decode cX0_versionOf 9 = .ok (.aconst_null, 1) := by decide +kernel
theorem dX0_versionOf_10 : decode cX0_versionOf 10 = .ok (.areturn, 1) := by decide +kernel
theorem dX0_versionOf_11 : decode cX0_versionOf 11 = .ok (.iload_n 1, 1) := by decide +kernel
theorem dX0_versionOf_12 : decode cX0_versionOf 12 = .ok (.aload_n 0, 1) := by decide +kernel
theorem dX0_versionOf_13 : decode cX0_versionOf 13 = .ok (.getfield 31, 3) := by decide +kernel
theorem dX0_versionOf_16 : decode cX0_versionOf 16 = .ok (.if_icmp .ne 10, 3) := by decide +kernel
theorem dX0_versionOf_19 : decode cX0_versionOf 19 = .ok (.aload_n 0, 1) := by decide +kernel
theorem dX0_versionOf_20 : decode cX0_versionOf 20 = .ok (.getfield 34, 3) := by decide +kernel
theorem dX0_versionOf_23 : decode cX0_versionOf 23 = .ok (.goto 9, 3) := by decide +kernel
theorem dX0_versionOf_26 : decode cX0_versionOf 26 = .ok (.aload_n 0, 1) := by decide +kernel
theorem dX0_versionOf_27 : decode cX0_versionOf 27 = .ok (.getfield 11, 3) := by decide +kernel
theorem dX0_versionOf_30 : decode cX0_versionOf 30 = .ok (.iload_n 1, 1) := by decide +kernel
theorem dX0_versionOf_31 : decode cX0_versionOf 31 = .ok (.aaload, 1) := by decide +kernel
theorem dX0_versionOf_32 : decode cX0_versionOf 32 = .ok (.areturn, 1) := by decide +kernel
theorem lk_X0_versionOf : LK yX0_versionOf cX0_versionOf 2 (some (.object "MeetingServer$Version")) 1 := ⟨qW_at 248 (by decide +kernel) rfl, qW_at 41 (by decide +kernel) rfl, by decide, by decide, by decide +kernel⟩
theorem im_X0_versionOf : Cond.instanceMethod yX0_versionOf ∈ qW := qW_at 246 (by decide +kernel) rfl
theorem se_X0_versionOf : Cond.selects RX0 yX0_versionOf yX0_versionOf ∈ qW := qW_at 247 (by decide +kernel) rfl
def F_X0_versionOf (this : Nat) (person_ : Int32) : QX (Option Nat) :=
  (xb (xb (xb (xp person_) fun v1 => xp (decide (v1 < 0))) fun v4 => if v4 then xp true else (xb (xp person_) fun v2 => xb (xp (5 : Int32)) fun v3 => xp (decide (v3 ≤ v2)))) fun v13 => if v13 then (xp none) else
  (xb (xb (xp person_) fun v5 => xb (xb (xp (some this)) fun v6 => xgi 1 1 v6) fun v7 => xp (decide (v5 = v7))) fun v12 => if v12 then (xb (xp (some this)) fun v8 => xgr 1 2 v8) else (xb (xb (xp (some this)) fun v9 => xgr 1 3 v9) fun v10 => xb (xp person_) fun v11 => xar 5 v10 v11)))
set_option maxRecDepth 100000 in
set_option maxHeartbeats 4000000 in
theorem M_X0_versionOf (this : Nat) (person_ : Int32) : MM yX0_versionOf cX0_versionOf 2 (some (.object "MeetingServer$Version")) 0 0 0 0 encR [.ref this, .int person_] (F_X0_versionOf this person_) := by
  refine MM_of (env0 := [(0, va_rf (some this)), (1, .int person_)]) (by decide) (by exact Nat.le_of_ble_eq_true rfl) (by rfl) (fun k mm res X C hR hN hr hname h => ?_)
  have X : CX k cX0_versionOf RX0 := X
  have hT : TH k (fun e m' => res = (.error e, m')) := TH_of C
  have htr := C.2.2.2.1
  unfold F_X0_versionOf at h
  exact SB_go (T := fun e m' => res = (.error e, m')) (RET := fun v m' => res = (.ok v, m')) (SB_if (CE_or (CE_1 (L_iload_n (x := person_) 1 X dX0_versionOf_0 rfl rfl) (Z_lt_T X dX0_versionOf_1 (by decide))) (CE_2 wI (L_iload_n (x := person_) 1 X dX0_versionOf_4 rfl rfl) (L_iconst (v := 5) X dX0_versionOf_5 (by decide)) (C_ge_F X dX0_versionOf_6 (by decide))))
  (SB_retR X C hr (Or.inl ⟨_, rfl⟩) dX0_versionOf_10 (L_null X dX0_versionOf_9))
  (SB_retR X C hr (Or.inl ⟨_, rfl⟩) dX0_versionOf_32 (XE_tern (CE_2 wI (L_iload_n (x := person_) 1 X dX0_versionOf_11 rfl rfl) (XE_1 (L_aload_n (r := (some this)) 0 X dX0_versionOf_12 rfl rfl) (O_gi (c := 1) (j := 1) X rfl inW0 (by decide) fl_X0_31 rfl dX0_versionOf_13)) (C_eq_F X dX0_versionOf_16 (by decide))) (XE_1 (L_aload_n (r := (some this)) 0 X dX0_versionOf_19 rfl rfl) (O_gr (c := 1) (j := 2) X rfl inW0 (by decide) fl_X0_34 rfl dX0_versionOf_20)) (S_goto X dX0_versionOf_23 (by decide)) (XE_2 wR (XE_1 (L_aload_n (r := (some this)) 0 X dX0_versionOf_26 rfl rfl) (O_gr (c := 1) (j := 3) X rfl inW0 (by decide) fl_X0_11 rfl dX0_versionOf_27)) (L_iload_n (x := person_) 1 X dX0_versionOf_30 rfl rfl) (O_ar (c := 5) X (by decide) rfl dX0_versionOf_31))))) h (by rw [hR]; decide) (by rw [hR]; decide)
theorem dX6_isIn_0 : decode cX6_isIn 0 = .ok (.iload_n 0, 1) := by decide +kernel
theorem dX6_isIn_1 : decode cX6_isIn 1 = .ok (.iload_n 1, 1) := by decide +kernel
theorem dX6_isIn_2 : decode cX6_isIn 2 = .ok (.ishr, 1) := by decide +kernel
theorem dX6_isIn_3 : decode cX6_isIn 3 = .ok (.iconst 1, 1) := by decide +kernel
theorem dX6_isIn_4 : decode cX6_isIn 4 = .ok (.iand, 1) := by decide +kernel
theorem dX6_isIn_5 : decode cX6_isIn 5 = .ok (.iconst 1, 1) := by decide +kernel
theorem dX6_isIn_6 : decode cX6_isIn 6 = .ok (.if_icmp .ne 7, 3) := by decide +kernel
theorem dX6_isIn_9 : decode cX6_isIn 9 = .ok (.iconst 1, 1) := by decide +kernel
theorem dX6_isIn_10 : decode cX6_isIn 10 = .ok (.goto 4, 3) := by decide +kernel
theorem dX6_isIn_13 : decode cX6_isIn 13 = .ok (.iconst 0, 1) := by decide +kernel
theorem dX6_isIn_14 : decode cX6_isIn 14 = .ok (.ireturn, 1) := by decide +kernel
theorem lk_X6_isIn : LK yX6_isIn cX6_isIn 2 (some .boolean) 2 := ⟨qW_at 236 (by decide +kernel) rfl, qW_at 29 (by decide +kernel) rfl, by decide, by decide, by decide +kernel⟩
theorem st_X6_isIn : Cond.static yX6_isIn ∈ qW := qW_at 235 (by decide +kernel) rfl
def F_X6_isIn (people_ : Int32) (person_ : Int32) : QX Int32 :=
  (xb (xb (xb (xb (xb (xp people_) fun v1 => xb (xp person_) fun v2 => (xp (v1 >>> (v2 &&& 31)))) fun v3 => xb (xp (1 : Int32)) fun v4 => (xp (v3 &&& v4))) fun v5 => xb (xp (1 : Int32)) fun v6 => xp (decide (v5 = v6))) fun v7 => xp (b2i v7)) xz)
set_option maxRecDepth 100000 in
set_option maxHeartbeats 4000000 in
theorem M_X6_isIn (people_ : Int32) (person_ : Int32) : MM yX6_isIn cX6_isIn 2 (some .boolean) 0 0 0 0 encI [.int people_, .int person_] (F_X6_isIn people_ person_) := by
  refine MM_of (env0 := [(0, .int people_), (1, .int person_)]) (by decide) (by exact Nat.le_of_ble_eq_true rfl) (by rfl) (fun k mm res X C hR hN hr hname h => ?_)
  have X : CX k cX6_isIn RX6 := X
  have hT : TH k (fun e m' => res = (.error e, m')) := TH_of C
  have htr := C.2.2.2.1
  unfold F_X6_isIn at h
  exact SB_go (T := fun e m' => res = (.error e, m')) (RET := fun v m' => res = (.ok v, m')) (SB_retZ X C hr dX6_isIn_14 (XE_b2i (CE_2 wI (XE_2 wI (XE_2 wI (L_iload_n (x := people_) 0 X dX6_isIn_0 rfl rfl) (L_iload_n (x := person_) 1 X dX6_isIn_1 rfl rfl) (O_ishr X dX6_isIn_2)) (L_iconst (v := 1) X dX6_isIn_3 (by decide)) (O_iand X dX6_isIn_4)) (L_iconst (v := 1) X dX6_isIn_5 (by decide)) (C_eq_F X dX6_isIn_6 (by decide))) (S_b1 X dX6_isIn_9 dX6_isIn_10 (by decide)) (S_b0 X dX6_isIn_13))) h (by rw [hR]; decide) (by rw [hR]; decide)
theorem dX0_versionThere_0 : decode cX0_versionThere 0 = .ok (.aload_n 0, 1) := by decide +kernel
theorem dX0_versionThere_1 : decode cX0_versionThere 1 = .ok (.iload_n 1, 1) := by decide +kernel
theorem dX0_versionThere_2 : decode cX0_versionThere 2 = .ok (.invokevirtual 38, 3) := by decide +kernel
theorem dX0_versionThere_5 : decode cX0_versionThere 5 = .ok (.astore_n 2, 1) := by decide +kernel
theorem dX0_versionThere_6 : decode cX0_versionThere 6 = .ok (.aload_n 2, 1) := by decide +kernel
theorem dX0_versionThere_7 : decode cX0_versionThere 7 = .ok (.ifnull 21, 3) := by decide +kernel
theorem dX0_versionThere_10 : decode cX0_versionThere 10 = .ok (.aload_n 2, 1) := by decide +kernel
theorem dX0_versionThere_11 : decode cX0_versionThere 11 = .ok (.getfield 42, 3) := by decide +kernel
theorem dX0_versionThere_14 : decode cX0_versionThere 14 = .ok (.ifCond .ne 14, 3) := by decide +kernel
theorem dX0_versionThere_17 : decode cX0_versionThere 17 = .ok (.aload_n 2, 1) := by decide +kernel
theorem dX0_versionThere_18 : decode cX0_versionThere 18 = .ok (.getfield 46, 3) := by decide +kernel
theorem dX0_versionThere_21 : decode cX0_versionThere 21 = .ok (.iload_n 1, 1) := by decide +kernel
theorem dX0_versionThere_22 : decode cX0_versionThere 22 = .ok (.invokestatic 49, 3) := by decide +kernel
theorem dX0_versionThere_25 : decode cX0_versionThere 25 = .ok (.ifCond .eq 7, 3) := by decide +kernel
theorem dX0_versionThere_28 : decode cX0_versionThere 28 = .ok (.aconst_null, 1) := by decide +kernel
theorem dX0_versionThere_29 : decode cX0_versionThere 29 = .ok (.goto 4, 3) := by decide +kernel
theorem dX0_versionThere_32 : decode cX0_versionThere 32 = .ok (.aload_n 2, 1) := by decide +kernel
theorem dX0_versionThere_33 : decode cX0_versionThere 33 = .ok (.areturn, 1) := by decide +kernel
theorem lk_X0_versionThere : LK yX0_versionThere cX0_versionThere 3 (some (.object "MeetingServer$Version")) 1 := ⟨qW_at 244 (by decide +kernel) rfl, qW_at 41 (by decide +kernel) rfl, by decide, by decide, by decide +kernel⟩
theorem im_X0_versionThere : Cond.instanceMethod yX0_versionThere ∈ qW := qW_at 242 (by decide +kernel) rfl
theorem se_X0_versionThere : Cond.selects RX0 yX0_versionThere yX0_versionThere ∈ qW := qW_at 243 (by decide +kernel) rfl
def F_X0_versionThere (this : Nat) (person_ : Int32) : QX (Option Nat) :=
  (xb (xb (xp (some this)) fun v1 => xb (xp person_) fun v2 => xo 1 v1 fun q => F_X0_versionOf q v2) fun held_3 =>
  (xb (xb (xb (xb (xp held_3) fun v4 => xp (decide (v4 = none))) fun v7 => if v7 then xp true else (xb (xb (xp held_3) fun v5 => xgi 5 16 v5) fun v6 => xp (decide (¬ v6 = 0)))) fun v12 => if v12 then xp true else (xb (xb (xb (xp held_3) fun v8 => xgi 5 15 v8) fun v9 => xb (xp person_) fun v10 => F_X6_isIn v9 v10) fun v11 => xp (decide (¬ v11 = 0)))) fun v13 => if v13 then (xp none) else (xp held_3)))
set_option maxRecDepth 100000 in
set_option maxHeartbeats 4000000 in
theorem M_X0_versionThere (this : Nat) (person_ : Int32) : MM yX0_versionThere cX0_versionThere 3 (some (.object "MeetingServer$Version")) 1 21 0 0 encR [.ref this, .int person_] (F_X0_versionThere this person_) := by
  refine MM_of (env0 := [(0, va_rf (some this)), (1, .int person_)]) (by decide) (by exact Nat.le_of_ble_eq_true rfl) (by rfl) (fun k mm res X C hR hN hr hname h => ?_)
  have X : CX k cX0_versionThere RX0 := X
  have hT : TH k (fun e m' => res = (.error e, m')) := TH_of C
  have htr := C.2.2.2.1
  unfold F_X0_versionThere at h
  exact SB_go (T := fun e m' => res = (.error e, m')) (RET := fun v m' => res = (.ok v, m')) (SB_let (XE_2 (pB := pR) wR (L_aload_n (r := (some this)) 0 X dX0_versionThere_0 rfl rfl) (L_iload_n (x := person_) 1 X dX0_versionThere_1 rfl rfl) (fun v0 v1 st mm a b hd hc hs h => g_callVo (st := st) (cI := 1) X hT htr rfl (fun q => M_X0_versionOf q v1) lk_X0_versionOf im_X0_versionOf se_X0_versionOf ml_X0_38 rfl (by rw [hR]; exact ⟨Nat.le_of_ble_eq_true rfl, Nat.le_of_ble_eq_true rfl⟩) (Nat.le_trans hd (by decide)) ⟨hc, hs⟩ dX0_versionThere_2 h)) (S_astore_n (ev := fun held_3 => [(2, va_rf held_3), (0, va_rf (some this)), (1, .int person_)]) X dX0_versionThere_5 rfl (by rw [hN]; decide) (fun _ => rfl)) fun held_3 =>
  (SB_retR X C hr (Or.inl ⟨_, rfl⟩) dX0_versionThere_33 (XE_tern (CE_or (CE_or (CE_1 (L_aload_n (r := held_3) 0 X dX0_versionThere_6 rfl rfl) (N_eq_T X dX0_versionThere_7 (by decide))) (CE_1 (XE_1 (L_aload_n (r := held_3) 0 X dX0_versionThere_10 rfl rfl) (O_gi (c := 5) (j := 16) X rfl inW4 (by decide) fl_X0_42 rfl dX0_versionThere_11)) (Z_ne_T X dX0_versionThere_14 (by decide)))) (CE_1 (XE_2 (pB := pI) wI (XE_1 (L_aload_n (r := held_3) 0 X dX0_versionThere_17 rfl rfl) (O_gi (c := 5) (j := 15) X rfl inW4 (by decide) fl_X0_46 rfl dX0_versionThere_18)) (L_iload_n (x := person_) 2 X dX0_versionThere_21 rfl rfl) (fun v0 v1 st mm a b hd hc hs h => g_callSN (st := st) X hT htr (M_X6_isIn v0 v1) lk_X6_isIn st_X6_isIn ml_X0_49 rfl (by rw [hR]; exact ⟨Nat.le_of_ble_eq_true rfl, Nat.le_of_ble_eq_true rfl⟩) (Nat.le_trans hd (by decide)) ⟨hc, hs⟩ dX0_versionThere_22 h)) (Z_ne_F X dX0_versionThere_25 (by decide)))) (L_null X dX0_versionThere_28) (S_goto X dX0_versionThere_29 (by decide)) (L_aload_n (r := held_3) 0 X dX0_versionThere_32 rfl rfl)))) h (by rw [hR]; decide) (by rw [hR]; decide)
theorem dX0_answerAsKnown_0 : decode cX0_answerAsKnown 0 = .ok (.aload_n 0, 1) := by decide +kernel
theorem dX0_answerAsKnown_1 : decode cX0_answerAsKnown 1 = .ok (.getfield 20, 3) := by decide +kernel
theorem dX0_answerAsKnown_4 : decode cX0_answerAsKnown 4 = .ok (.iload_n 1, 1) := by decide +kernel
theorem dX0_answerAsKnown_5 : decode cX0_answerAsKnown 5 = .ok (.iload_n 2, 1) := by decide +kernel
theorem dX0_answerAsKnown_6 : decode cX0_answerAsKnown 6 = .ok (.aload_n 0, 1) := by decide +kernel
theorem dX0_answerAsKnown_7 : decode cX0_answerAsKnown 7 = .ok (.getfield 34, 3) := by decide +kernel
theorem dX0_answerAsKnown_10 : decode cX0_answerAsKnown 10 = .ok (.iload_n 2, 1) := by decide +kernel
theorem dX0_answerAsKnown_11 : decode cX0_answerAsKnown 11 = .ok (.invokevirtual 53, 3) := by decide +kernel
theorem dX0_answerAsKnown_14 : decode cX0_answerAsKnown 14 = .ok (.invokevirtual 57, 3) := by decide +kernel
theorem dX0_answerAsKnown_17 : decode cX0_answerAsKnown 17 = .ok (.ireturn, 1) := by decide +kernel
theorem lk_X0_answerAsKnown : LK yX0_answerAsKnown cX0_answerAsKnown 3 (some .int) 2 := ⟨qW_at 519 (by decide +kernel) rfl, qW_at 41 (by decide +kernel) rfl, by decide, by decide, by decide +kernel⟩
theorem im_X0_answerAsKnown : Cond.instanceMethod yX0_answerAsKnown ∈ qW := qW_at 517 (by decide +kernel) rfl
theorem se_X0_answerAsKnown : Cond.selects RX0 yX0_answerAsKnown yX0_answerAsKnown ∈ qW := qW_at 518 (by decide +kernel) rfl
def F_X0_answerAsKnown (this : Nat) (person_ : Int32) (day_ : Int32) : QX Int32 :=
  (xb (xb (xp (some this)) fun v1 => xgr 1 5 v1) fun v5 => xb (xp person_) fun v6 => xb (xp day_) fun v7 => xb (xb (xb (xp (some this)) fun v2 => xgr 1 2 v2) fun v3 => xb (xp day_) fun v4 => xo 5 v3 fun q => F_X4_standOf q v4) fun v8 => xo 4 v5 fun q => F_X3_answerFor q v6 v7 v8)
set_option maxRecDepth 100000 in
set_option maxHeartbeats 4000000 in
theorem M_X0_answerAsKnown (this : Nat) (person_ : Int32) (day_ : Int32) : MM yX0_answerAsKnown cX0_answerAsKnown 3 (some .int) 3 67 0 0 encI [.ref this, .int person_, .int day_] (F_X0_answerAsKnown this person_ day_) := by
  refine MM_of (env0 := [(0, va_rf (some this)), (1, .int person_), (2, .int day_)]) (by decide) (by exact Nat.le_of_ble_eq_true rfl) (by rfl) (fun k mm res X C hR hN hr hname h => ?_)
  have X : CX k cX0_answerAsKnown RX0 := X
  have hT : TH k (fun e m' => res = (.error e, m')) := TH_of C
  have htr := C.2.2.2.1
  unfold F_X0_answerAsKnown at h
  exact SB_go (T := fun e m' => res = (.error e, m')) (RET := fun v m' => res = (.ok v, m')) (SB_retI X C hr dX0_answerAsKnown_17 (XE_4 (pB := pI) wR wI wI (XE_1 (L_aload_n (r := (some this)) 0 X dX0_answerAsKnown_0 rfl rfl) (O_gr (c := 1) (j := 5) X rfl inW0 (by decide) fl_X0_20 rfl dX0_answerAsKnown_1)) (L_iload_n (x := person_) 1 X dX0_answerAsKnown_4 rfl rfl) (L_iload_n (x := day_) 2 X dX0_answerAsKnown_5 rfl rfl) (XE_2 (pB := pI) wR (XE_1 (L_aload_n (r := (some this)) 0 X dX0_answerAsKnown_6 rfl rfl) (O_gr (c := 1) (j := 2) X rfl inW0 (by decide) fl_X0_34 rfl dX0_answerAsKnown_7)) (L_iload_n (x := day_) 2 X dX0_answerAsKnown_10 rfl rfl) (fun v0 v1 st mm a b hd hc hs h => g_callVo (st := st) (cI := 5) X hT htr rfl (fun q => M_X4_standOf q v1) lk_X4_standOf im_X4_standOf se_X4_standOf ml_X0_53 rfl (by rw [hR]; exact ⟨Nat.le_of_ble_eq_true rfl, Nat.le_of_ble_eq_true rfl⟩) (Nat.le_trans hd (by decide)) ⟨hc, hs⟩ dX0_answerAsKnown_11 h)) (fun v0 v1 v2 v3 st mm a b hd hc hs h => g_callVo (st := st) (cI := 4) X hT htr rfl (fun q => M_X3_answerFor q v1 v2 v3) lk_X3_answerFor im_X3_answerFor se_X3_answerFor ml_X0_57 rfl (by rw [hR]; exact ⟨Nat.le_of_ble_eq_true rfl, Nat.le_of_ble_eq_true rfl⟩) (Nat.le_trans hd (by decide)) ⟨hc, hs⟩ dX0_answerAsKnown_14 h))) h (by rw [hR]; decide) (by rw [hR]; decide)
theorem dX0_answerAsOwn_0 : decode cX0_answerAsOwn 0 = .ok (.iload_n 1, 1) := by decide +kernel
theorem dX0_answerAsOwn_1 : decode cX0_answerAsOwn 1 = .ok (.aload_n 0, 1) := by decide +kernel
theorem dX0_answerAsOwn_2 : decode cX0_answerAsOwn 2 = .ok (.getfield 31, 3) := by decide +kernel
theorem dX0_answerAsOwn_5 : decode cX0_answerAsOwn 5 = .ok (.if_icmp .ne 7, 3) := by decide +kernel
theorem dX0_answerAsOwn_8 : decode cX0_answerAsOwn 8 = .ok (.iconst 1, 1) := by decide +kernel
theorem dX0_answerAsOwn_9 : decode cX0_answerAsOwn 9 = .ok (.goto 17, 3) := by decide +kernel
theorem dX0_answerAsOwn_12 : decode cX0_answerAsOwn 12 = .ok (.aload_n 0, 1) := by decide +kernel
theorem dX0_answerAsOwn_13 : decode cX0_answerAsOwn 13 = .ok (.getfield 24, 3) := by decide +kernel
theorem dX0_answerAsOwn_16 : decode cX0_answerAsOwn 16 = .ok (.iload_n 1, 1) := by decide +kernel
theorem dX0_answerAsOwn_17 : decode cX0_answerAsOwn 17 = .ok (.iload_n 3, 1) := by decide +kernel
theorem dX0_answerAsOwn_18 : decode cX0_answerAsOwn 18 = .ok (.aload_n 2, 1) := by decide +kernel
theorem dX0_answerAsOwn_19 : decode cX0_answerAsOwn 19 = .ok (.iload_n 3, 1) := by decide +kernel
theorem dX0_answerAsOwn_20 : decode cX0_answerAsOwn 20 = .ok (.invokevirtual 53, 3) := by decide +kernel
theorem dX0_answerAsOwn_23 : decode cX0_answerAsOwn 23 = .ok (.invokevirtual 57, 3) := by decide +kernel
theorem dX0_answerAsOwn_26 : decode cX0_answerAsOwn 26 = .ok (.ireturn, 1) := by decide +kernel
theorem lk_X0_answerAsOwn : LK yX0_answerAsOwn cX0_answerAsOwn 4 (some .int) 3 := ⟨qW_at 475 (by decide +kernel) rfl, qW_at 41 (by decide +kernel) rfl, by decide, by decide, by decide +kernel⟩
theorem im_X0_answerAsOwn : Cond.instanceMethod yX0_answerAsOwn ∈ qW := qW_at 473 (by decide +kernel) rfl
theorem se_X0_answerAsOwn : Cond.selects RX0 yX0_answerAsOwn yX0_answerAsOwn ∈ qW := qW_at 474 (by decide +kernel) rfl
def F_X0_answerAsOwn (this : Nat) (person_ : Int32) (held_ : Option Nat) (day_ : Int32) : QX Int32 :=
  (xb (xb (xp person_) fun v1 => xb (xb (xp (some this)) fun v2 => xgi 1 1 v2) fun v3 => xp (decide (v1 = v3))) fun v11 => if v11 then (xp (1 : Int32)) else (xb (xb (xp (some this)) fun v4 => xgr 1 6 v4) fun v7 => xb (xp person_) fun v8 => xb (xp day_) fun v9 => xb (xb (xp held_) fun v5 => xb (xp day_) fun v6 => xo 5 v5 fun q => F_X4_standOf q v6) fun v10 => xo 4 v7 fun q => F_X3_answerFor q v8 v9 v10))
set_option maxRecDepth 100000 in
set_option maxHeartbeats 4000000 in
theorem M_X0_answerAsOwn (this : Nat) (person_ : Int32) (held_ : Option Nat) (day_ : Int32) : MM yX0_answerAsOwn cX0_answerAsOwn 4 (some .int) 3 67 0 0 encI [.ref this, .int person_, va_rf held_, .int day_] (F_X0_answerAsOwn this person_ held_ day_) := by
  refine MM_of (env0 := [(0, va_rf (some this)), (1, .int person_), (2, va_rf held_), (3, .int day_)]) (by decide) (by cases held_ <;> exact Nat.le_of_ble_eq_true rfl) (by cases held_ <;> rfl) (fun k mm res X C hR hN hr hname h => ?_)
  have X : CX k cX0_answerAsOwn RX0 := X
  have hT : TH k (fun e m' => res = (.error e, m')) := TH_of C
  have htr := C.2.2.2.1
  unfold F_X0_answerAsOwn at h
  exact SB_go (T := fun e m' => res = (.error e, m')) (RET := fun v m' => res = (.ok v, m')) (SB_retI X C hr dX0_answerAsOwn_26 (XE_tern (CE_2 wI (L_iload_n (x := person_) 1 X dX0_answerAsOwn_0 rfl rfl) (XE_1 (L_aload_n (r := (some this)) 0 X dX0_answerAsOwn_1 rfl rfl) (O_gi (c := 1) (j := 1) X rfl inW0 (by decide) fl_X0_31 rfl dX0_answerAsOwn_2)) (C_eq_F X dX0_answerAsOwn_5 (by decide))) (L_iconst (v := 1) X dX0_answerAsOwn_8 (by decide)) (S_goto X dX0_answerAsOwn_9 (by decide)) (XE_4 (pB := pI) wR wI wI (XE_1 (L_aload_n (r := (some this)) 0 X dX0_answerAsOwn_12 rfl rfl) (O_gr (c := 1) (j := 6) X rfl inW0 (by decide) fl_X0_24 rfl dX0_answerAsOwn_13)) (L_iload_n (x := person_) 1 X dX0_answerAsOwn_16 rfl rfl) (L_iload_n (x := day_) 3 X dX0_answerAsOwn_17 rfl rfl) (XE_2 (pB := pI) wR (L_aload_n (r := held_) 2 X dX0_answerAsOwn_18 rfl rfl) (L_iload_n (x := day_) 3 X dX0_answerAsOwn_19 rfl rfl) (fun v0 v1 st mm a b hd hc hs h => g_callVo (st := st) (cI := 5) X hT htr rfl (fun q => M_X4_standOf q v1) lk_X4_standOf im_X4_standOf se_X4_standOf ml_X0_53 rfl (by rw [hR]; exact ⟨Nat.le_of_ble_eq_true rfl, Nat.le_of_ble_eq_true rfl⟩) (Nat.le_trans hd (by decide)) ⟨hc, hs⟩ dX0_answerAsOwn_20 h)) (fun v0 v1 v2 v3 st mm a b hd hc hs h => g_callVo (st := st) (cI := 4) X hT htr rfl (fun q => M_X3_answerFor q v1 v2 v3) lk_X3_answerFor im_X3_answerFor se_X3_answerFor ml_X0_57 rfl (by rw [hR]; exact ⟨Nat.le_of_ble_eq_true rfl, Nat.le_of_ble_eq_true rfl⟩) (Nat.le_trans hd (by decide)) ⟨hc, hs⟩ dX0_answerAsOwn_23 h)))) h (by rw [hR]; decide) (by rw [hR]; decide)
theorem dX0_rankByDate_0 : decode cX0_rankByDate 0 = .ok (.iload_n 1, 1) := by decide +kernel
theorem dX0_rankByDate_1 : decode cX0_rankByDate 1 = .ok (.aload_n 0, 1) := by decide +kernel
theorem dX0_rankByDate_2 : decode cX0_rankByDate 2 = .ok (.getfield 31, 3) := by decide +kernel
theorem dX0_rankByDate_5 : decode cX0_rankByDate 5 = .ok (.if_icmp .ne 5, 3) := by decide +kernel
theorem dX0_rankByDate_8 : decode cX0_rankByDate 8 = .ok (.iconst 2, 1) := by decide +kernel
theorem dX0_rankByDate_9 : decode cX0_rankByDate 9 = .ok (.ireturn, 1) := by decide +kernel
theorem dX0_rankByDate_10 : decode cX0_rankByDate 10 = .ok (.aload_n 0, 1) := by decide +kernel
theorem dX0_rankByDate_11 : decode cX0_rankByDate 11 = .ok (.getfield 24, 3) := by decide +kernel
theorem dX0_rankByDate_14 : decode cX0_rankByDate 14 = .ok (.iload_n 1, 1) := by decide +kernel
theorem dX0_rankByDate_15 : decode cX0_rankByDate 15 = .ok (.iload_n 3, 1) := by decide +kernel
theorem dX0_rankByDate_16 : decode cX0_rankByDate 16 = .ok (.aload_n 2, 1) := by decide +kernel
theorem dX0_rankByDate_17 : decode cX0_rankByDate 17 = .ok (.iload_n 3, 1) := by decide +kernel
theorem dX0_rankByDate_18 : decode cX0_rankByDate 18 = .ok (.invokevirtual 53, 3) := by decide +kernel
theorem dX0_rankByDate_21 : decode cX0_rankByDate 21 = .ok (.invokevirtual 57, 3) := by decide +kernel
theorem dX0_rankByDate_24 : decode cX0_rankByDate 24 = .ok (.lookupswitch 32 #[(1, 28), (2, 30)], 28) := by decide +kernel
theorem dX0_rankByDate_52 : decode cX0_rankByDate 52 = .ok (.iconst 2, 1) := by decide +kernel
theorem dX0_rankByDate_53 : decode cX0_rankByDate 53 = .ok (.ireturn, 1) := by decide +kernel
theorem dX0_rankByDate_54 : decode cX0_rankByDate 54 = .ok (.iconst 1, 1) := by decide +kernel
theorem dX0_rankByDate_55 : decode cX0_rankByDate 55 = .ok (.ireturn, 1) := by decide +kernel
theorem dX0_rankByDate_56 : decode cX0_rankByDate 56 = .ok (.iconst 0, 1) := by decide +kernel
theorem dX0_rankByDate_57 : decode cX0_rankByDate 57 = .ok (.ireturn, 1) := by decide +kernel
theorem lk_X0_rankByDate : LK yX0_rankByDate cX0_rankByDate 4 (some .int) 3 := ⟨qW_at 271 (by decide +kernel) rfl, qW_at 41 (by decide +kernel) rfl, by decide, by decide, by decide +kernel⟩
theorem im_X0_rankByDate : Cond.instanceMethod yX0_rankByDate ∈ qW := qW_at 269 (by decide +kernel) rfl
theorem se_X0_rankByDate : Cond.selects RX0 yX0_rankByDate yX0_rankByDate ∈ qW := qW_at 270 (by decide +kernel) rfl
def F_X0_rankByDate (this : Nat) (person_ : Int32) (held_ : Option Nat) (day_ : Int32) : QX Int32 :=
  (xb (xb (xp person_) fun v1 => xb (xb (xp (some this)) fun v2 => xgi 1 1 v2) fun v3 => xp (decide (v1 = v3))) fun v12 => if v12 then (xp (2 : Int32)) else
  (xb (xb (xb (xp (some this)) fun v4 => xgr 1 6 v4) fun v7 => xb (xp person_) fun v8 => xb (xp day_) fun v9 => xb (xb (xp held_) fun v5 => xb (xp day_) fun v6 => xo 5 v5 fun q => F_X4_standOf q v6) fun v10 => xo 4 v7 fun q => F_X3_answerFor q v8 v9 v10) fun v11 => if decide (v11 = 1) then (xp (2 : Int32)) else if decide (v11 = 2) then (xp (1 : Int32)) else (xp (0 : Int32))))
set_option maxRecDepth 100000 in
set_option maxHeartbeats 4000000 in
theorem M_X0_rankByDate (this : Nat) (person_ : Int32) (held_ : Option Nat) (day_ : Int32) : MM yX0_rankByDate cX0_rankByDate 4 (some .int) 3 67 0 0 encI [.ref this, .int person_, va_rf held_, .int day_] (F_X0_rankByDate this person_ held_ day_) := by
  refine MM_of (env0 := [(0, va_rf (some this)), (1, .int person_), (2, va_rf held_), (3, .int day_)]) (by decide) (by cases held_ <;> exact Nat.le_of_ble_eq_true rfl) (by cases held_ <;> rfl) (fun k mm res X C hR hN hr hname h => ?_)
  have X : CX k cX0_rankByDate RX0 := X
  have hT : TH k (fun e m' => res = (.error e, m')) := TH_of C
  have htr := C.2.2.2.1
  unfold F_X0_rankByDate at h
  exact SB_go (T := fun e m' => res = (.error e, m')) (RET := fun v m' => res = (.ok v, m')) (SB_if (CE_2 wI (L_iload_n (x := person_) 1 X dX0_rankByDate_0 rfl rfl) (XE_1 (L_aload_n (r := (some this)) 0 X dX0_rankByDate_1 rfl rfl) (O_gi (c := 1) (j := 1) X rfl inW0 (by decide) fl_X0_31 rfl dX0_rankByDate_2)) (C_eq_F X dX0_rankByDate_5 (by decide)))
  (SB_retI X C hr dX0_rankByDate_9 (L_iconst (v := 2) X dX0_rankByDate_8 (by decide)))
  (SB_sw2 (a0 := 1) (a1 := 2) (XE_4 (pB := pI) wR wI wI (XE_1 (L_aload_n (r := (some this)) 0 X dX0_rankByDate_10 rfl rfl) (O_gr (c := 1) (j := 6) X rfl inW0 (by decide) fl_X0_24 rfl dX0_rankByDate_11)) (L_iload_n (x := person_) 1 X dX0_rankByDate_14 rfl rfl) (L_iload_n (x := day_) 3 X dX0_rankByDate_15 rfl rfl) (XE_2 (pB := pI) wR (L_aload_n (r := held_) 2 X dX0_rankByDate_16 rfl rfl) (L_iload_n (x := day_) 3 X dX0_rankByDate_17 rfl rfl) (fun v0 v1 st mm a b hd hc hs h => g_callVo (st := st) (cI := 5) X hT htr rfl (fun q => M_X4_standOf q v1) lk_X4_standOf im_X4_standOf se_X4_standOf ml_X0_53 rfl (by rw [hR]; exact ⟨Nat.le_of_ble_eq_true rfl, Nat.le_of_ble_eq_true rfl⟩) (Nat.le_trans hd (by decide)) ⟨hc, hs⟩ dX0_rankByDate_18 h)) (fun v0 v1 v2 v3 st mm a b hd hc hs h => g_callVo (st := st) (cI := 4) X hT htr rfl (fun q => M_X3_answerFor q v1 v2 v3) lk_X3_answerFor im_X3_answerFor se_X3_answerFor ml_X0_57 rfl (by rw [hR]; exact ⟨Nat.le_of_ble_eq_true rfl, Nat.le_of_ble_eq_true rfl⟩) (Nat.le_trans hd (by decide)) ⟨hc, hs⟩ dX0_rankByDate_21 h)) (W2_lookup X dX0_rankByDate_24 (by decide) (by decide) (by decide))
  (SB_retI X C hr dX0_rankByDate_53 (L_iconst (v := 2) X dX0_rankByDate_52 (by decide)))
  (SB_retI X C hr dX0_rankByDate_55 (L_iconst (v := 1) X dX0_rankByDate_54 (by decide)))
  (SB_retI X C hr dX0_rankByDate_57 (L_iconst (v := 0) X dX0_rankByDate_56 (by decide))))) h (by rw [hR]; decide) (by rw [hR]; decide)
theorem dX0_isAgreedWith_0 : decode cX0_isAgreedWith 0 = .ok (.aload_n 0, 1) := by decide +kernel
theorem dX0_isAgreedWith_1 : decode cX0_isAgreedWith 1 = .ok (.iload_n 1, 1) := by decide +kernel
theorem dX0_isAgreedWith_2 : decode cX0_isAgreedWith 2 = .ok (.invokevirtual 61, 3) := by decide +kernel
theorem dX0_isAgreedWith_5 : decode cX0_isAgreedWith 5 = .ok (.astore_n 2, 1) := by decide +kernel
theorem dX0_isAgreedWith_6 : decode cX0_isAgreedWith 6 = .ok (.aload_n 2, 1) := by decide +kernel
theorem dX0_isAgreedWith_7 : decode cX0_isAgreedWith 7 = .ok (.ifnull 17, 3) := by decide +kernel
theorem dX0_isAgreedWith_10 : decode cX0_isAgreedWith 10 = .ok (.aload_n 2, 1) := by decide +kernel
theorem dX0_isAgreedWith_11 : decode cX0_isAgreedWith 11 = .ok (.getfield 64, 3) := by decide +kernel
theorem dX0_isAgreedWith_14 : decode cX0_isAgreedWith 14 = .ok (.aload_n 0, 1) := by decide +kernel
theorem dX0_isAgreedWith_15 : decode cX0_isAgreedWith 15 = .ok (.getfield 34, 3) := by decide +kernel
theorem dX0_isAgreedWith_18 : decode cX0_isAgreedWith 18 = .ok (.getfield 64, 3) := by decide +kernel
theorem dX0_isAgreedWith_21 : decode cX0_isAgreedWith 21 = .ok (.if_icmp .eq 5, 3) := by decide +kernel
theorem dX0_isAgreedWith_24 : decode cX0_isAgreedWith 24 = .ok (.iconst 0, 1) := by decide +kernel
theorem dX0_isAgreedWith_25 : decode cX0_isAgreedWith 25 = .ok (.ireturn, 1) := by decide +kernel
theorem dX0_isAgreedWith_26 : decode cX0_isAgreedWith 26 = .ok (.iconst 0, 1) := by decide +kernel
theorem dX0_isAgreedWith_27 : decode cX0_isAgreedWith 27 = .ok (.istore_n 3, 1) := by decide +kernel
theorem dX0_isAgreedWith_28 : decode cX0_isAgreedWith 28 = .ok (.iload_n 3, 1) := by decide +kernel
theorem dX0_isAgreedWith_29 : decode cX0_isAgreedWith 29 = .ok (.aload_n 0, 1) := by decide +kernel
theorem dX0_isAgreedWith_30 : decode cX0_isAgreedWith 30 = .ok (.getfield 34, 3) := by decide +kernel
theorem dX0_isAgreedWith_33 : decode cX0_isAgreedWith 33 = .ok (.getfield 67, 3) := by decide +kernel
theorem dX0_isAgreedWith_36 : decode cX0_isAgreedWith 36 = .ok (.arraylength, 1) := by decide +kernel
theorem dX0_isAgreedWith_37 : decode cX0_isAgreedWith 37 = .ok (.if_icmp .ge 40, 3) := by decide +kernel
theorem dX0_isAgreedWith_40 : decode cX0_isAgreedWith 40 = .ok (.aload_n 0, 1) := by decide +kernel
theorem dX0_isAgreedWith_41 : decode cX0_isAgreedWith 41 = .ok (.getfield 34, 3) := by decide +kernel
theorem dX0_isAgreedWith_44 : decode cX0_isAgreedWith 44 = .ok (.getfield 67, 3) := by decide +kernel
theorem dX0_isAgreedWith_47 : decode cX0_isAgreedWith 47 = .ok (.iload_n 3, 1) := by decide +kernel
theorem dX0_isAgreedWith_48 : decode cX0_isAgreedWith 48 = .ok (.iaload, 1) := by decide +kernel
theorem dX0_isAgreedWith_49 : decode cX0_isAgreedWith 49 = .ok (.istore 4, 2) := by decide +kernel
theorem dX0_isAgreedWith_51 : decode cX0_isAgreedWith 51 = .ok (.aload_n 0, 1) := by decide +kernel
theorem dX0_isAgreedWith_52 : decode cX0_isAgreedWith 52 = .ok (.iload_n 1, 1) := by decide +kernel
theorem dX0_isAgreedWith_53 : decode cX0_isAgreedWith 53 = .ok (.aload_n 2, 1) := by decide +kernel
theorem dX0_isAgreedWith_54 : decode cX0_isAgreedWith 54 = .ok (.iload 4, 2) := by decide +kernel
theorem dX0_isAgreedWith_56 : decode cX0_isAgreedWith 56 = .ok (.invokevirtual 71, 3) := by decide +kernel
theorem dX0_isAgreedWith_59 : decode cX0_isAgreedWith 59 = .ok (.aload_n 0, 1) := by decide +kernel
theorem dX0_isAgreedWith_60 : decode cX0_isAgreedWith 60 = .ok (.iload_n 1, 1) := by decide +kernel
theorem dX0_isAgreedWith_61 : decode cX0_isAgreedWith 61 = .ok (.iload 4, 2) := by decide +kernel
theorem dX0_isAgreedWith_63 : decode cX0_isAgreedWith 63 = .ok (.invokevirtual 75, 3) := by decide +kernel
theorem dX0_isAgreedWith_66 : decode cX0_isAgreedWith 66 = .ok (.if_icmp .eq 5, 3) := by decide +kernel
theorem dX0_isAgreedWith_69 : decode cX0_isAgreedWith 69 = .ok (.iconst 0, 1) := by decide +kernel
theorem dX0_isAgreedWith_70 : decode cX0_isAgreedWith 70 = .ok (.ireturn, 1) := by decide +kernel
theorem dX0_isAgreedWith_71 : decode cX0_isAgreedWith 71 = .ok (.iinc 3 1, 3) := by decide +kernel
theorem dX0_isAgreedWith_74 : decode cX0_isAgreedWith 74 = .ok (.goto (-46), 3) := by decide +kernel
theorem dX0_isAgreedWith_77 : decode cX0_isAgreedWith 77 = .ok (.iconst 1, 1) := by decide +kernel
theorem dX0_isAgreedWith_78 : decode cX0_isAgreedWith 78 = .ok (.ireturn, 1) := by decide +kernel
theorem lk_X0_isAgreedWith : LK yX0_isAgreedWith cX0_isAgreedWith 5 (some .boolean) 1 := ⟨qW_at 587 (by decide +kernel) rfl, qW_at 41 (by decide +kernel) rfl, by decide, by decide, by decide +kernel⟩
theorem im_X0_isAgreedWith : Cond.instanceMethod yX0_isAgreedWith ∈ qW := qW_at 585 (by decide +kernel) rfl
theorem se_X0_isAgreedWith : Cond.selects RX0 yX0_isAgreedWith yX0_isAgreedWith ∈ qW := qW_at 586 (by decide +kernel) rfl
def F_X0_isAgreedWith (this : Nat) (person_ : Int32) : QX Int32 :=
  (xb (xb (xp (some this)) fun v1 => xb (xp person_) fun v2 => xo 1 v1 fun q => F_X0_versionThere q v2) fun held_3 =>
  (xb (xb (xb (xp held_3) fun v4 => xp (decide (v4 = none))) fun v10 => if v10 then xp true else (xb (xb (xp held_3) fun v5 => xgi 5 0 v5) fun v6 => xb (xb (xb (xp (some this)) fun v7 => xgr 1 2 v7) fun v8 => xgi 5 0 v8) fun v9 => xp (decide (¬ v6 = v9)))) fun v37 => if v37 then (xb (xp (0 : Int32)) xz) else
  (xb (xp (0 : Int32)) fun place_11 =>
  (xb (xlr 2000 (fun (s12 : Int32) => (xb (xp s12) fun v13 => xb (xb (xb (xb (xp (some this)) fun v14 => xgr 1 2 v14) fun v15 => xgr 5 11 v15) fun v16 => xlen v16) fun v17 => xp (decide (v13 < v17)))) (fun (s12 : Int32) =>
  (xb (xb (xb (xb (xp (some this)) fun v18 => xgr 1 2 v18) fun v19 => xgr 5 11 v19) fun v20 => xb (xp s12) fun v21 => xai 0 v20 v21) fun day_22 =>
  (xb (xb (xb (xp (some this)) fun v23 => xb (xp person_) fun v24 => xb (xp held_3) fun v25 => xb (xp day_22) fun v26 => xo 1 v23 fun q => F_X0_answerAsOwn q v24 v25 v26) fun v27 => xb (xb (xp (some this)) fun v28 => xb (xp person_) fun v29 => xb (xp day_22) fun v30 => xo 1 v28 fun q => F_X0_answerAsKnown q v29 v30) fun v31 => xp (decide (¬ v27 = v31))) fun v33 => if v33 then (xb (xb (xp (0 : Int32)) xz) fun v34 => xp (Sum.inl v34)) else
  (xb (xp (s12 + 1)) fun s32 => xp (Sum.inr s32))))) place_11) fun r36 => xsum r36 fun s35 =>
  (xb (xp (1 : Int32)) xz)))))
set_option maxRecDepth 100000 in
set_option maxHeartbeats 4000000 in
theorem M_X0_isAgreedWith (this : Nat) (person_ : Int32) : MM yX0_isAgreedWith cX0_isAgreedWith 5 (some .boolean) 4 90 0 0 encI [.ref this, .int person_] (F_X0_isAgreedWith this person_) := by
  refine MM_of (env0 := [(0, va_rf (some this)), (1, .int person_)]) (by decide) (by exact Nat.le_of_ble_eq_true rfl) (by rfl) (fun k mm res X C hR hN hr hname h => ?_)
  have X : CX k cX0_isAgreedWith RX0 := X
  have hT : TH k (fun e m' => res = (.error e, m')) := TH_of C
  have htr := C.2.2.2.1
  unfold F_X0_isAgreedWith at h
  exact SB_go (T := fun e m' => res = (.error e, m')) (RET := fun v m' => res = (.ok v, m')) (SB_let (XE_2 (pB := pR) wR (L_aload_n (r := (some this)) 0 X dX0_isAgreedWith_0 rfl rfl) (L_iload_n (x := person_) 1 X dX0_isAgreedWith_1 rfl rfl) (fun v0 v1 st mm a b hd hc hs h => g_callVo (st := st) (cI := 1) X hT htr rfl (fun q => M_X0_versionThere q v1) lk_X0_versionThere im_X0_versionThere se_X0_versionThere ml_X0_61 rfl (by rw [hR]; exact ⟨Nat.le_of_ble_eq_true rfl, Nat.le_of_ble_eq_true rfl⟩) (Nat.le_trans hd (by decide)) ⟨hc, hs⟩ dX0_isAgreedWith_2 h)) (S_astore_n (ev := fun held_3 => [(2, va_rf held_3), (0, va_rf (some this)), (1, .int person_)]) X dX0_isAgreedWith_5 rfl (by rw [hN]; decide) (fun _ => rfl)) fun held_3 =>
  (SB_if (CE_or (CE_1 (L_aload_n (r := held_3) 0 X dX0_isAgreedWith_6 rfl rfl) (N_eq_T X dX0_isAgreedWith_7 (by decide))) (CE_2 wI (XE_1 (L_aload_n (r := held_3) 0 X dX0_isAgreedWith_10 rfl rfl) (O_gi (c := 5) (j := 0) X rfl inW4 (by decide) fl_X0_64 rfl dX0_isAgreedWith_11)) (XE_1 (XE_1 (L_aload_n (r := (some this)) 1 X dX0_isAgreedWith_14 rfl rfl) (O_gr (c := 1) (j := 2) X rfl inW0 (by decide) fl_X0_34 rfl dX0_isAgreedWith_15)) (O_gi (c := 5) (j := 0) X rfl inW4 (by decide) fl_X0_64 rfl dX0_isAgreedWith_18)) (C_ne_F X dX0_isAgreedWith_21 (by decide))))
  (SB_retZ X C hr dX0_isAgreedWith_25 (L_iconst (v := 0) X dX0_isAgreedWith_24 (by decide)))
  (SB_let (L_iconst (v := 0) X dX0_isAgreedWith_26 (by decide)) (S_istore_n (ev := fun place_11 => [(3, .int place_11), (2, va_rf held_3), (0, va_rf (some this)), (1, .int person_)]) X dX0_isAgreedWith_27 rfl (by rw [hN]; decide) (fun _ => (by cases held_3 <;> rfl))) fun place_11 =>
  (SB_seqR (STR_loop (σ := Int32) (upd := (fun (s : Int32) => [(3, .int s), (2, va_rf held_3), (0, va_rf (some this)), (1, .int person_)])) (s0 := place_11) (n := 2000) (fun mm a b h => GG_sub [0, 1, 2, 3] rfl h)
  (fun s12 => (CE_2 wI (L_iload_n (x := s12) 0 X dX0_isAgreedWith_28 rfl rfl) (XE_1 (XE_1 (XE_1 (L_aload_n (r := (some this)) 2 X dX0_isAgreedWith_29 rfl rfl) (O_gr (c := 1) (j := 2) X rfl inW0 (by decide) fl_X0_34 rfl dX0_isAgreedWith_30)) (O_gr (c := 5) (j := 11) X rfl inW4 (by decide) fl_X0_67 rfl dX0_isAgreedWith_33)) (O_len X dX0_isAgreedWith_36)) (C_lt_F X dX0_isAgreedWith_37 (by decide))))
  (fun s12 => (STR_post (STR_let (XE_2 wR (XE_1 (XE_1 (L_aload_n (r := (some this)) 2 X dX0_isAgreedWith_40 rfl rfl) (O_gr (c := 1) (j := 2) X rfl inW0 (by decide) fl_X0_34 rfl dX0_isAgreedWith_41)) (O_gr (c := 5) (j := 11) X rfl inW4 (by decide) fl_X0_67 rfl dX0_isAgreedWith_44)) (L_iload_n (x := s12) 0 X dX0_isAgreedWith_47 rfl rfl) (O_ai X dX0_isAgreedWith_48)) (S_istore (ev := fun day_22 => [(4, .int day_22), (3, .int s12), (2, va_rf held_3), (0, va_rf (some this)), (1, .int person_)]) X dX0_isAgreedWith_49 (by rw [hN]; decide) (fun _ => rfl)) fun day_22 =>
  (STR_if (CE_2 wI (XE_4 (pB := pI) wR wI wR (L_aload_n (r := (some this)) 3 X dX0_isAgreedWith_51 rfl rfl) (L_iload_n (x := person_) 4 X dX0_isAgreedWith_52 rfl rfl) (L_aload_n (r := held_3) 2 X dX0_isAgreedWith_53 rfl rfl) (L_iload (x := day_22) 0 X dX0_isAgreedWith_54 rfl) (fun v0 v1 v2 v3 st mm a b hd hc hs h => g_callVo (st := st) (cI := 1) X hT htr rfl (fun q => M_X0_answerAsOwn q v1 v2 v3) lk_X0_answerAsOwn im_X0_answerAsOwn se_X0_answerAsOwn ml_X0_71 rfl (by rw [hR]; exact ⟨Nat.le_of_ble_eq_true rfl, Nat.le_of_ble_eq_true rfl⟩) (Nat.le_trans hd (by decide)) ⟨hc, hs⟩ dX0_isAgreedWith_56 h)) (XE_3 (pB := pI) wR wI (L_aload_n (r := (some this)) 3 X dX0_isAgreedWith_59 rfl rfl) (L_iload_n (x := person_) 4 X dX0_isAgreedWith_60 rfl rfl) (L_iload (x := day_22) 0 X dX0_isAgreedWith_61 rfl) (fun v0 v1 v2 st mm a b hd hc hs h => g_callVo (st := st) (cI := 1) X hT htr rfl (fun q => M_X0_answerAsKnown q v1 v2) lk_X0_answerAsKnown im_X0_answerAsKnown se_X0_answerAsKnown ml_X0_75 rfl (by rw [hR]; exact ⟨Nat.le_of_ble_eq_true rfl, Nat.le_of_ble_eq_true rfl⟩) (Nat.le_trans hd (by decide)) ⟨hc, hs⟩ dX0_isAgreedWith_63 h)) (C_ne_F X dX0_isAgreedWith_66 (by decide)))
  (SB_retZ X C hr dX0_isAgreedWith_70 (L_iconst (v := 0) X dX0_isAgreedWith_69 (by decide)))
  (STR_of (ST_pre (env' := [(3, .int (s12 + 1)), (4, .int day_22), (2, va_rf held_3), (0, va_rf (some this)), (1, .int person_)]) (S_iinc 1 X dX0_isAgreedWith_71 rfl rfl (by rw [hN]; decide) (by cases held_3 <;> rfl))
  (ST_done (upd := (fun (s : Int32) => [(3, .int s), (2, va_rf held_3), (0, va_rf (some this)), (1, .int person_)])) (s := (s12 + 1)) [0, 2, 3, 4] rfl))))) fun _ mm a b h => S_goto X dX0_isAgreedWith_74 (by decide) [] mm a b h))) fun s35 =>
  (SB_retZ X C hr dX0_isAgreedWith_78 (L_iconst (v := 1) X dX0_isAgreedWith_77 (by decide))))))) h (by rw [hR]; decide) (by rw [hR]; decide)
theorem dX0_askedIf_0 : decode cX0_askedIf 0 = .ok (.aload_n 0, 1) := by decide +kernel
theorem dX0_askedIf_1 : decode cX0_askedIf 1 = .ok (.getfield 34, 3) := by decide +kernel
theorem dX0_askedIf_4 : decode cX0_askedIf 4 = .ok (.getfield 79, 3) := by decide +kernel
theorem dX0_askedIf_7 : decode cX0_askedIf 7 = .ok (.istore_n 2, 1) := by decide +kernel
theorem dX0_askedIf_8 : decode cX0_askedIf 8 = .ok (.iconst 0, 1) := by decide +kernel
theorem dX0_askedIf_9 : decode cX0_askedIf 9 = .ok (.istore_n 3, 1) := by decide +kernel
theorem dX0_askedIf_10 : decode cX0_askedIf 10 = .ok (.iload_n 3, 1) := by decide +kernel
theorem dX0_askedIf_11 : decode cX0_askedIf 11 = .ok (.iconst 5, 1) := by decide +kernel
theorem dX0_askedIf_12 : decode cX0_askedIf 12 = .ok (.if_icmp .ge 68, 3) := by decide +kernel
theorem dX0_askedIf_15 : decode cX0_askedIf 15 = .ok (.iconst 0, 1) := by decide +kernel
theorem dX0_askedIf_16 : decode cX0_askedIf 16 = .ok (.istore 4, 2) := by decide +kernel
theorem dX0_askedIf_18 : decode cX0_askedIf 18 = .ok (.iload 4, 2) := by decide +kernel
theorem dX0_askedIf_20 : decode cX0_askedIf 20 = .ok (.aload_n 1, 1) := by decide +kernel
theorem dX0_askedIf_21 : decode cX0_askedIf 21 = .ok (.arraylength, 1) := by decide +kernel
theorem dX0_askedIf_22 : decode cX0_askedIf 22 = .ok (.if_icmp .ge 52, 3) := by decide +kernel
theorem dX0_askedIf_25 : decode cX0_askedIf 25 = .ok (.aload_n 1, 1) := by decide +kernel
theorem dX0_askedIf_26 : decode cX0_askedIf 26 = .ok (.iload 4, 2) := by decide +kernel
theorem dX0_askedIf_28 : decode cX0_askedIf 28 = .ok (.iaload, 1) := by decide +kernel
theorem dX0_askedIf_29 : decode cX0_askedIf 29 = .ok (.istore 5, 2) := by decide +kernel
theorem dX0_askedIf_31 : decode cX0_askedIf 31 = .ok (.iload 5, 2) := by decide +kernel
theorem dX0_askedIf_33 : decode cX0_askedIf 33 = .ok (.iconst (-1), 1) := by decide +kernel
theorem dX0_askedIf_34 : decode cX0_askedIf 34 = .ok (.if_icmp .eq 34, 3) := by decide +kernel
theorem dX0_askedIf_37 : decode cX0_askedIf 37 = .ok (.iload_n 2, 1) := by decide +kernel
theorem dX0_askedIf_38 : decode cX0_askedIf 38 = .ok (.iload 4, 2) := by decide +kernel
theorem dX0_askedIf_40 : decode cX0_askedIf 40 = .ok (.invokestatic 49, 3) := by decide +kernel
theorem dX0_askedIf_43 : decode cX0_askedIf 43 = .ok (.ifCond .eq 25, 3) := by decide +kernel
theorem dX0_askedIf_46 : decode cX0_askedIf 46 = .ok (.aload_n 0, 1) := by decide +kernel
theorem dX0_askedIf_47 : decode cX0_askedIf 47 = .ok (.getfield 34, 3) := by decide +kernel
theorem dX0_askedIf_50 : decode cX0_askedIf 50 = .ok (.getfield 46, 3) := by decide +kernel
theorem dX0_askedIf_53 : decode cX0_askedIf 53 = .ok (.iload 5, 2) := by decide +kernel
theorem dX0_askedIf_55 : decode cX0_askedIf 55 = .ok (.invokestatic 49, 3) := by decide +kernel
theorem dX0_askedIf_58 : decode cX0_askedIf 58 = .ok (.ifCond .ne 10, 3) := by decide +kernel
theorem dX0_askedIf_61 : decode cX0_askedIf 61 = .ok (.iload_n 2, 1) := by decide +kernel
theorem dX0_askedIf_62 : decode cX0_askedIf 62 = .ok (.iconst 1, 1) := by decide +kernel
theorem dX0_askedIf_63 : decode cX0_askedIf 63 = .ok (.iload 5, 2) := by decide +kernel
theorem dX0_askedIf_65 : decode cX0_askedIf 65 = .ok (.ishl, 1) := by decide +kernel
theorem dX0_askedIf_66 : decode cX0_askedIf 66 = .ok (.ior, 1) := by decide +kernel
theorem dX0_askedIf_67 : decode cX0_askedIf 67 = .ok (.istore_n 2, 1) := by decide +kernel
theorem dX0_askedIf_68 : decode cX0_askedIf 68 = .ok (.iinc 4 1, 3) := by decide +kernel
theorem dX0_askedIf_71 : decode cX0_askedIf 71 = .ok (.goto (-53), 3) := by decide +kernel
theorem dX0_askedIf_74 : decode cX0_askedIf 74 = .ok (.iinc 3 1, 3) := by decide +kernel
theorem dX0_askedIf_77 : decode cX0_askedIf 77 = .ok (.goto (-67), 3) := by decide +kernel
theorem dX0_askedIf_80 : decode cX0_askedIf 80 = .ok (.iload_n 2, 1) := by decide +kernel
theorem dX0_askedIf_81 : decode cX0_askedIf 81 = .ok (.ireturn, 1) := by decide +kernel
theorem lk_X0_askedIf : LK yX0_askedIf cX0_askedIf 6 (some .int) 1 := ⟨qW_at 508 (by decide +kernel) rfl, qW_at 41 (by decide +kernel) rfl, by decide, by decide, by decide +kernel⟩
theorem im_X0_askedIf : Cond.instanceMethod yX0_askedIf ∈ qW := qW_at 506 (by decide +kernel) rfl
theorem se_X0_askedIf : Cond.selects RX0 yX0_askedIf yX0_askedIf ∈ qW := qW_at 507 (by decide +kernel) rfl
def F_X0_askedIf (this : Nat) (delegates_ : Option Nat) : QX Int32 :=
  (xb (xb (xb (xp (some this)) fun v1 => xgr 1 2 v1) fun v2 => xgi 5 14 v2) fun asked_3 =>
  (xb (xp (0 : Int32)) fun round_4 =>
  (xb (xl 2000 (fun (s5 : Int32 × Int32) => (xb (xp s5.2) fun v6 => xb (xp (5 : Int32)) fun v7 => xp (decide (v6 < v7)))) (fun (s5 : Int32 × Int32) =>
  (xb (xp (0 : Int32)) fun person_8 =>
  (xb (xl 2000 (fun (s9 : Int32 × Int32) => (xb (xp s9.2) fun v10 => xb (xb (xp delegates_) fun v11 => xlen v11) fun v12 => xp (decide (v10 < v12)))) (fun (s9 : Int32 × Int32) =>
  (xb (xb (xp delegates_) fun v13 => xb (xp s9.2) fun v14 => xai 0 v13 v14) fun other_15 =>
  (xb (xb (xb (xb (xb (xp other_15) fun v16 => xb (xp (-1 : Int32)) fun v17 => xp (decide (¬ v16 = v17))) fun v21 => if v21 then (xb (xb (xp s9.1) fun v18 => xb (xp s9.2) fun v19 => F_X6_isIn v18 v19) fun v20 => xp (decide (¬ v20 = 0))) else xp false) fun v28 => if v28 then (xb (xb (xb (xb (xb (xp (some this)) fun v22 => xgr 1 2 v22) fun v23 => xgi 5 15 v23) fun v24 => xb (xp other_15) fun v25 => F_X6_isIn v24 v25) fun v26 => xp (decide (¬ v26 = 0))) fun v27 => xp (!v27)) else xp false) fun v34 => if v34 then (xb (xb (xp s9.1) fun v31 => xb (xb (xp (1 : Int32)) fun v29 => xb (xp other_15) fun v30 => (xp (v29 <<< (v30 &&& 31)))) fun v32 => (xp (v31 ||| v32))) fun asked_33 =>
  (xp asked_33)) else (xp s9.1)) fun s35 =>
  (xp (s35, (s9.2 + 1)))))) (s5.1, person_8)) fun s36 =>
  (xp (s36.1, (s5.2 + 1)))))) (asked_3, round_4)) fun s37 =>
  (xp s37.1))))
set_option maxRecDepth 100000 in
set_option maxHeartbeats 4000000 in
theorem M_X0_askedIf (this : Nat) (delegates_ : Option Nat) : MM yX0_askedIf cX0_askedIf 6 (some .int) 1 21 0 0 encI [.ref this, va_rf delegates_] (F_X0_askedIf this delegates_) := by
  refine MM_of (env0 := [(0, va_rf (some this)), (1, va_rf delegates_)]) (by decide) (by cases delegates_ <;> exact Nat.le_of_ble_eq_true rfl) (by cases delegates_ <;> rfl) (fun k mm res X C hR hN hr hname h => ?_)
  have X : CX k cX0_askedIf RX0 := X
  have hT : TH k (fun e m' => res = (.error e, m')) := TH_of C
  have htr := C.2.2.2.1
  unfold F_X0_askedIf at h
  exact SB_go (T := fun e m' => res = (.error e, m')) (RET := fun v m' => res = (.ok v, m')) (SB_let (XE_1 (XE_1 (L_aload_n (r := (some this)) 0 X dX0_askedIf_0 rfl rfl) (O_gr (c := 1) (j := 2) X rfl inW0 (by decide) fl_X0_34 rfl dX0_askedIf_1)) (O_gi (c := 5) (j := 14) X rfl inW4 (by decide) fl_X0_79 rfl dX0_askedIf_4)) (S_istore_n (ev := fun asked_3 => [(2, .int asked_3), (0, va_rf (some this)), (1, va_rf delegates_)]) X dX0_askedIf_7 rfl (by rw [hN]; decide) (fun _ => (by cases delegates_ <;> rfl))) fun asked_3 =>
  (SB_let (L_iconst (v := 0) X dX0_askedIf_8 (by decide)) (S_istore_n (ev := fun round_4 => [(3, .int round_4), (2, .int asked_3), (0, va_rf (some this)), (1, va_rf delegates_)]) X dX0_askedIf_9 rfl (by rw [hN]; decide) (fun _ => rfl)) fun round_4 =>
  (SB_seq (ST_loop (σ := Int32 × Int32) (upd := (fun (s : Int32 × Int32) => [(3, .int s.2), (2, .int s.1), (0, va_rf (some this)), (1, va_rf delegates_)])) (s0 := (asked_3, round_4)) (n := 2000) (fun mm a b h => GG_sub [0, 1, 2, 3] rfl h)
  (fun s5 => (CE_2 wI (L_iload_n (x := s5.2) 0 X dX0_askedIf_10 rfl rfl) (L_iconst (v := 5) X dX0_askedIf_11 (by decide)) (C_lt_F X dX0_askedIf_12 (by decide))))
  (fun s5 => (ST_post (ST_let (L_iconst (v := 0) X dX0_askedIf_15 (by decide)) (S_istore (ev := fun person_8 => [(4, .int person_8), (3, .int s5.2), (2, .int s5.1), (0, va_rf (some this)), (1, va_rf delegates_)]) X dX0_askedIf_16 (by rw [hN]; decide) (fun _ => rfl)) fun person_8 =>
  (ST_seq (ST_loop (σ := Int32 × Int32) (upd := (fun (s : Int32 × Int32) => [(4, .int s.2), (3, .int s5.2), (2, .int s.1), (0, va_rf (some this)), (1, va_rf delegates_)])) (s0 := (s5.1, person_8)) (n := 2000) (fun mm a b h => GG_sub [0, 1, 2, 3, 4] rfl h)
  (fun s9 => (CE_2 wI (L_iload (x := s9.2) 0 X dX0_askedIf_18 rfl) (XE_1 (L_aload_n (r := delegates_) 4 X dX0_askedIf_20 rfl rfl) (O_len X dX0_askedIf_21)) (C_lt_F X dX0_askedIf_22 (by decide))))
  (fun s9 => (ST_post (ST_let (XE_2 wR (L_aload_n (r := delegates_) 4 X dX0_askedIf_25 rfl rfl) (L_iload (x := s9.2) 0 X dX0_askedIf_26 rfl) (O_ai X dX0_askedIf_28)) (S_istore (ev := fun other_15 => [(5, .int other_15), (4, .int s9.2), (3, .int s5.2), (2, .int s9.1), (0, va_rf (some this)), (1, va_rf delegates_)]) X dX0_askedIf_29 (by rw [hN]; decide) (fun _ => rfl)) fun other_15 =>
  (ST_seq (ST_if (CE_and (CE_and (CE_2 wI (L_iload (x := other_15) 0 X dX0_askedIf_31 rfl) (L_iconst (v := (-1)) X dX0_askedIf_33 (by decide)) (C_ne_F X dX0_askedIf_34 (by decide))) (CE_1 (XE_2 (pB := pI) wI (L_iload_n (x := s9.1) 3 X dX0_askedIf_37 rfl rfl) (L_iload (x := s9.2) 1 X dX0_askedIf_38 rfl) (fun v0 v1 st mm a b hd hc hs h => g_callSN (st := st) X hT htr (M_X6_isIn v0 v1) lk_X6_isIn st_X6_isIn ml_X0_49 rfl (by rw [hR]; exact ⟨Nat.le_of_ble_eq_true rfl, Nat.le_of_ble_eq_true rfl⟩) (Nat.le_trans hd (by decide)) ⟨hc, hs⟩ dX0_askedIf_40 h)) (Z_ne_F X dX0_askedIf_43 (by decide)))) (CE_not (CE_1 (XE_2 (pB := pI) wI (XE_1 (XE_1 (L_aload_n (r := (some this)) 4 X dX0_askedIf_46 rfl rfl) (O_gr (c := 1) (j := 2) X rfl inW0 (by decide) fl_X0_34 rfl dX0_askedIf_47)) (O_gi (c := 5) (j := 15) X rfl inW4 (by decide) fl_X0_46 rfl dX0_askedIf_50)) (L_iload (x := other_15) 0 X dX0_askedIf_53 rfl) (fun v0 v1 st mm a b hd hc hs h => g_callSN (st := st) X hT htr (M_X6_isIn v0 v1) lk_X6_isIn st_X6_isIn ml_X0_49 rfl (by rw [hR]; exact ⟨Nat.le_of_ble_eq_true rfl, Nat.le_of_ble_eq_true rfl⟩) (Nat.le_trans hd (by decide)) ⟨hc, hs⟩ dX0_askedIf_55 h)) (Z_ne_T X dX0_askedIf_58 (by decide)))))
  (ST_let (XE_2 wI (L_iload_n (x := s9.1) 3 X dX0_askedIf_61 rfl rfl) (XE_2 wI (L_iconst (v := 1) X dX0_askedIf_62 (by decide)) (L_iload (x := other_15) 0 X dX0_askedIf_63 rfl) (O_ishl X dX0_askedIf_65)) (O_ior X dX0_askedIf_66)) (S_istore_n (ev := fun asked_33 => [(2, .int asked_33), (5, .int other_15), (4, .int s9.2), (3, .int s5.2), (0, va_rf (some this)), (1, va_rf delegates_)]) X dX0_askedIf_67 rfl (by rw [hN]; decide) (fun _ => (by cases delegates_ <;> rfl))) fun asked_33 =>
  (ST_done (upd := (fun (s : Int32) => [(5, .int other_15), (4, .int s9.2), (3, .int s5.2), (2, .int s), (0, va_rf (some this)), (1, va_rf delegates_)])) (s := asked_33) [1, 2, 3, 0, 4, 5] rfl))
  (ST_done (upd := (fun (s : Int32) => [(5, .int other_15), (4, .int s9.2), (3, .int s5.2), (2, .int s), (0, va_rf (some this)), (1, va_rf delegates_)])) (s := s9.1) [0, 1, 2, 3, 4, 5] rfl)) fun s35 =>
  (ST_pre (env' := [(4, .int (s9.2 + 1)), (5, .int other_15), (3, .int s5.2), (2, .int s35), (0, va_rf (some this)), (1, va_rf delegates_)]) (S_iinc 1 X dX0_askedIf_68 rfl rfl (by rw [hN]; decide) rfl)
  (ST_done (upd := (fun (s : Int32 × Int32) => [(4, .int s.2), (3, .int s5.2), (2, .int s.1), (0, va_rf (some this)), (1, va_rf delegates_)])) (s := (s35, (s9.2 + 1))) [0, 2, 3, 4, 5] rfl)))) fun _ mm a b h => S_goto X dX0_askedIf_71 (by decide) [] mm a b h))) fun s36 =>
  (ST_pre (env' := [(3, .int (s5.2 + 1)), (4, .int s36.2), (2, .int s36.1), (0, va_rf (some this)), (1, va_rf delegates_)]) (S_iinc 1 X dX0_askedIf_74 rfl rfl (by rw [hN]; decide) rfl)
  (ST_done (upd := (fun (s : Int32 × Int32) => [(3, .int s.2), (2, .int s.1), (0, va_rf (some this)), (1, va_rf delegates_)])) (s := (s36.1, (s5.2 + 1))) [0, 2, 3, 4] rfl)))) fun _ mm a b h => S_goto X dX0_askedIf_77 (by decide) [] mm a b h))) fun s37 =>
  (SB_retI X C hr dX0_askedIf_81 (L_iload_n (x := s37.1) 1 X dX0_askedIf_80 rfl rfl))))) h (by rw [hR]; decide) (by rw [hR]; decide)
theorem dX6_init_0 : decode cX6_init 0 = .ok (.aload_n 0, 1) := by decide +kernel
theorem dX6_init_1 : decode cX6_init 1 = .ok (.invokespecial 1, 3) := by decide +kernel
theorem dX6_init_4 : decode cX6_init 4 = .ok (.aload_n 0, 1) := by decide +kernel
theorem dX6_init_5 : decode cX6_init 5 = .ok (.iconst 3, 1) := by decide +kernel
theorem dX6_init_6 : decode cX6_init 6 = .ok (.anewarray 9, 3) := by decide +kernel
theorem dX6_init_9 : decode cX6_init 9 = .ok (.putfield 11, 3) := by decide +kernel
theorem dX6_init_12 : decode cX6_init 12 = .ok (.aload_n 0, 1) := by decide +kernel
theorem dX6_init_13 : decode cX6_init 13 = .ok (.iconst 5, 1) := by decide +kernel
theorem dX6_init_14 : decode cX6_init 14 = .ok (.anewarray 15, 3) := by decide +kernel
theorem dX6_init_17 : decode cX6_init 17 = .ok (.putfield 17, 3) := by decide +kernel
theorem dX6_init_20 : decode cX6_init 20 = .ok (.aload_n 0, 1) := by decide +kernel
theorem dX6_init_21 : decode cX6_init 21 = .ok (.bipush 8, 2) := by decide +kernel
theorem dX6_init_23 : decode cX6_init 23 = .ok (.anewarray 21, 3) := by decide +kernel
theorem dX6_init_26 : decode cX6_init 26 = .ok (.putfield 23, 3) := by decide +kernel
theorem dX6_init_29 : decode cX6_init 29 = .ok (.aload_n 0, 1) := by decide +kernel
theorem dX6_init_30 : decode cX6_init 30 = .ok (.sipush 150, 3) := by decide +kernel
theorem dX6_init_33 : decode cX6_init 33 = .ok (.anewarray 27, 3) := by decide +kernel
theorem dX6_init_36 : decode cX6_init 36 = .ok (.putfield 29, 3) := by decide +kernel
theorem dX6_init_39 : decode cX6_init 39 = .ok (.aload_n 0, 1) := by decide +kernel
theorem dX6_init_40 : decode cX6_init 40 = .ok (.iconst 5, 1) := by decide +kernel
theorem dX6_init_41 : decode cX6_init 41 = .ok (.newarray .int, 2) := by decide +kernel
theorem dX6_init_43 : decode cX6_init 43 = .ok (.putfield 33, 3) := by decide +kernel
theorem dX6_init_46 : decode cX6_init 46 = .ok (.aload_n 0, 1) := by decide +kernel
theorem dX6_init_47 : decode cX6_init 47 = .ok (.sipush 1649, 3) := by decide +kernel
theorem dX6_init_50 : decode cX6_init 50 = .ok (.newarray .byte, 2) := by decide +kernel
theorem dX6_init_52 : decode cX6_init 52 = .ok (.putfield 37, 3) := by decide +kernel
theorem dX6_init_55 : decode cX6_init 55 = .ok (.iconst 0, 1) := by decide +kernel
theorem dX6_init_56 : decode cX6_init 56 = .ok (.istore_n 1, 1) := by decide +kernel
theorem dX6_init_57 : decode cX6_init 57 = .ok (.iload_n 1, 1) := by decide +kernel
theorem dX6_init_58 : decode cX6_init 58 = .ok (.iconst 3, 1) := by decide +kernel
theorem dX6_init_59 : decode cX6_init 59 = .ok (.if_icmp .ge 22, 3) := by decide +kernel
theorem dX6_init_62 : decode cX6_init 62 = .ok (.aload_n 0, 1) := by decide +kernel
theorem dX6_init_63 : decode cX6_init 63 = .ok (.getfield 11, 3) := by decide +kernel
theorem dX6_init_66 : decode cX6_init 66 = .ok (.iload_n 1, 1) := by decide +kernel
theorem dX6_init_67 : decode cX6_init 67 = .ok (.new 9, 3) := by decide +kernel
theorem dX6_init_70 : decode cX6_init 70 = .ok (.dup, 1) := by decide +kernel
theorem dX6_init_71 : decode cX6_init 71 = .ok (.invokespecial 41, 3) := by decide +kernel
theorem dX6_init_74 : decode cX6_init 74 = .ok (.aastore, 1) := by decide +kernel
theorem dX6_init_75 : decode cX6_init 75 = .ok (.iinc 1 1, 3) := by decide +kernel
theorem dX6_init_78 : decode cX6_init 78 = .ok (.goto (-21), 3) := by decide +kernel
theorem dX6_init_81 : decode cX6_init 81 = .ok (.iconst 0, 1) := by decide +kernel
theorem dX6_init_82 : decode cX6_init 82 = .ok (.istore_n 1, 1) := by decide +kernel
theorem dX6_init_83 : decode cX6_init 83 = .ok (.iload_n 1, 1) := by decide +kernel
theorem dX6_init_84 : decode cX6_init 84 = .ok (.iconst 5, 1) := by decide +kernel
theorem dX6_init_85 : decode cX6_init 85 = .ok (.if_icmp .ge 22, 3) := by decide +kernel
theorem dX6_init_88 : decode cX6_init 88 = .ok (.aload_n 0, 1) := by decide +kernel
theorem dX6_init_89 : decode cX6_init 89 = .ok (.getfield 17, 3) := by decide +kernel
theorem dX6_init_92 : decode cX6_init 92 = .ok (.iload_n 1, 1) := by decide +kernel
theorem dX6_init_93 : decode cX6_init 93 = .ok (.new 15, 3) := by decide +kernel
theorem dX6_init_96 : decode cX6_init 96 = .ok (.dup, 1) := by decide +kernel
theorem dX6_init_97 : decode cX6_init 97 = .ok (.invokespecial 42, 3) := by decide +kernel
theorem dX6_init_100 : decode cX6_init 100 = .ok (.aastore, 1) := by decide +kernel
theorem dX6_init_101 : decode cX6_init 101 = .ok (.iinc 1 1, 3) := by decide +kernel
theorem dX6_init_104 : decode cX6_init 104 = .ok (.goto (-21), 3) := by decide +kernel
theorem dX6_init_107 : decode cX6_init 107 = .ok (.return_, 1) := by decide +kernel
theorem lk_X6_init : LK yX6_init cX6_init 2 none 0 := ⟨qW_at 59 (by decide +kernel) rfl, qW_at 29 (by decide +kernel) rfl, by decide, by decide, by decide +kernel⟩
theorem im_X6_init : Cond.instanceMethod yX6_init ∈ qW := qW_at 58 (by decide +kernel) rfl
def F_X6_init (this : Nat) : QX Unit :=
  (xb (xb (xp (some this)) fun v2 => xb (xb (xp (3 : Int32)) fun v1 => xnewr 6 v1 3) fun v3 => xsr 7 0 v2 v3) fun _ =>
  (xb (xb (xp (some this)) fun v5 => xb (xb (xp (5 : Int32)) fun v4 => xnewr 3 v4 5) fun v6 => xsr 7 1 v5 v6) fun _ =>
  (xb (xb (xp (some this)) fun v8 => xb (xb (xp (8 : Int32)) fun v7 => xnewr 1 v7 8) fun v9 => xsr 7 2 v8 v9) fun _ =>
  (xb (xb (xp (some this)) fun v11 => xb (xb (xp (150 : Int32)) fun v10 => xnewr 2 v10 150) fun v12 => xsr 7 3 v11 v12) fun _ =>
  (xb (xb (xp (some this)) fun v14 => xb (xb (xp (5 : Int32)) fun v13 => xnewi 0 v13 5) fun v15 => xsr 7 7 v14 v15) fun _ =>
  (xb (xb (xp (some this)) fun v17 => xb (xb (xp (1649 : Int32)) fun v16 => xnewi 2 v16 1649) fun v18 => xsr 7 8 v17 v18) fun _ =>
  (xb (xp (0 : Int32)) fun zone_19 =>
  (xb (xl 4 (fun (s20 : Int32) => (xb (xp s20) fun v21 => xb (xp (3 : Int32)) fun v22 => xp (decide (v21 < v22)))) (fun (s20 : Int32) =>
  (xb (xb (xb (xp (some this)) fun v23 => xgr 7 0 v23) fun v26 => xb (xp s20) fun v27 => xb (xb (xnew 6) fun r24 => xb (xo 6 r24 fun q => F_X5_init q ) fun _ => xp r24) fun v28 => xsar 6 v26 v27 v28) fun _ =>
  (xp (s20 + 1)))) zone_19) fun s29 =>
  (xb (xp (0 : Int32)) fun person_30 =>
  (xb (xl 6 (fun (s31 : Int32) => (xb (xp s31) fun v32 => xb (xp (5 : Int32)) fun v33 => xp (decide (v32 < v33)))) (fun (s31 : Int32) =>
  (xb (xb (xb (xp (some this)) fun v34 => xgr 7 1 v34) fun v37 => xb (xp s31) fun v38 => xb (xb (xnew 3) fun r35 => xb (xo 3 r35 fun q => F_X2_init q ) fun _ => xp r35) fun v39 => xsar 3 v37 v38 v39) fun _ =>
  (xp (s31 + 1)))) person_30) fun s40 =>
  (xp ())))))))))))
set_option maxRecDepth 100000 in
set_option maxHeartbeats 4000000 in
theorem M_X6_init (this : Nat) : MM yX6_init cX6_init 2 none 2 32 22 1898 encU [.ref this] (F_X6_init this) := by
  refine MM_of (env0 := [(0, va_rf (some this))]) (by decide) (by exact Nat.le_of_ble_eq_true rfl) (by rfl) (fun k mm res X C hR hN hr hname h => ?_)
  have X : CX k cX6_init RX6 := X
  have hT : TH k (fun e m' => res = (.error e, m')) := TH_of C
  have htr := C.2.2.2.1
  unfold F_X6_init at h
  exact SB_go (T := fun e m' => res = (.error e, m')) (RET := fun v m' => res = (.ok v, m')) (SB_pre (env' := [(0, va_rf (some this))]) (S_super (j := 0) X dX6_init_0 rfl dX6_init_1 rfl ml_X6_1 oi_in oi_co (by rw [hR]; exact Nat.le_of_ble_eq_true rfl) (by rw [hR]; exact Nat.le_of_ble_eq_true rfl))
  (SB_do (XE_2 wR (L_aload_n (r := (some this)) 0 X dX6_init_4 rfl rfl) (XE_1 (L_iconst (v := 3) X dX6_init_5 (by decide)) (O_newr (cap := 3) (c := 6) X cl_X6_9 ao_5 (by decide) rfl (by decide) dX6_init_6)) (O_sr (c := 7) (j := 0) tyX6 X rfl inW6 tyX6_ok nmX6 (by decide) fl_X6_11 (Or.inr ⟨hname, rfl, rfl⟩) rfl (by decide +kernel : parseFieldDescriptor (TX6 0).2.2.1 = some (.array (.object "MeetingServer$Zone"))) (Or.inr ⟨_, rfl⟩) dX6_init_9))
  (SB_do (XE_2 wR (L_aload_n (r := (some this)) 0 X dX6_init_12 rfl rfl) (XE_1 (L_iconst (v := 5) X dX6_init_13 (by decide)) (O_newr (cap := 5) (c := 3) X cl_X6_15 ao_2 (by decide) rfl (by decide) dX6_init_14)) (O_sr (c := 7) (j := 1) tyX6 X rfl inW6 tyX6_ok nmX6 (by decide) fl_X6_17 (Or.inr ⟨hname, rfl, rfl⟩) rfl (by decide +kernel : parseFieldDescriptor (TX6 1).2.2.1 = some (.array (.object "MeetingServer$Person"))) (Or.inr ⟨_, rfl⟩) dX6_init_17))
  (SB_do (XE_2 wR (L_aload_n (r := (some this)) 0 X dX6_init_20 rfl rfl) (XE_1 (L_bipush (v := (8)) X dX6_init_21 (by decide)) (O_newr (cap := 8) (c := 1) X cl_X6_21 ao_0 (by decide) rfl (by decide) dX6_init_23)) (O_sr (c := 7) (j := 2) tyX6 X rfl inW6 tyX6_ok nmX6 (by decide) fl_X6_23 (Or.inr ⟨hname, rfl, rfl⟩) rfl (by decide +kernel : parseFieldDescriptor (TX6 2).2.2.1 = some (.array (.object "MeetingServer$Meeting"))) (Or.inr ⟨_, rfl⟩) dX6_init_26))
  (SB_do (XE_2 wR (L_aload_n (r := (some this)) 0 X dX6_init_29 rfl rfl) (XE_1 (L_sipush (v := (150)) X dX6_init_30 (by decide)) (O_newr (cap := 150) (c := 2) X cl_X6_27 ao_1 (by decide) rfl (by decide) dX6_init_33)) (O_sr (c := 7) (j := 3) tyX6 X rfl inW6 tyX6_ok nmX6 (by decide) fl_X6_29 (Or.inr ⟨hname, rfl, rfl⟩) rfl (by decide +kernel : parseFieldDescriptor (TX6 3).2.2.1 = some (.array (.object "MeetingServer$Message"))) (Or.inr ⟨_, rfl⟩) dX6_init_36))
  (SB_do (XE_2 wR (L_aload_n (r := (some this)) 0 X dX6_init_39 rfl rfl) (XE_1 (L_iconst (v := 5) X dX6_init_40 (by decide)) (O_newi0 (cap := 5) X ac_int (by decide) dX6_init_41)) (O_sr (c := 7) (j := 7) tyX6 X rfl inW6 tyX6_ok nmX6 (by decide) fl_X6_33 (Or.inr ⟨hname, rfl, rfl⟩) rfl (by decide +kernel : parseFieldDescriptor (TX6 7).2.2.1 = some (.array .int)) (Or.inr ⟨_, rfl⟩) dX6_init_43))
  (SB_do (XE_2 wR (L_aload_n (r := (some this)) 0 X dX6_init_46 rfl rfl) (XE_1 (L_sipush (v := (1649)) X dX6_init_47 (by decide)) (O_newi2 (cap := 1649) X ac_byte (by decide) dX6_init_50)) (O_sr (c := 7) (j := 8) tyX6 X rfl inW6 tyX6_ok nmX6 (by decide) fl_X6_37 (Or.inr ⟨hname, rfl, rfl⟩) rfl (by decide +kernel : parseFieldDescriptor (TX6 8).2.2.1 = some (.array .byte)) (Or.inr ⟨_, rfl⟩) dX6_init_52))
  (SB_let (L_iconst (v := 0) X dX6_init_55 (by decide)) (S_istore_n (ev := fun zone_19 => [(1, .int zone_19), (0, va_rf (some this))]) X dX6_init_56 rfl (by rw [hN]; decide) (fun _ => rfl)) fun zone_19 =>
  (SB_seq (ST_loop (σ := Int32) (upd := (fun (s : Int32) => [(1, .int s), (0, va_rf (some this))])) (s0 := zone_19) (n := 4) (fun mm a b h => GG_sub [0, 1] rfl h)
  (fun s20 => (CE_2 wI (L_iload_n (x := s20) 0 X dX6_init_57 rfl rfl) (L_iconst (v := 3) X dX6_init_58 (by decide)) (C_lt_F X dX6_init_59 (by decide))))
  (fun s20 => (ST_post (ST_do (XE_3 wR wI (XE_1 (L_aload_n (r := (some this)) 1 X dX6_init_62 rfl rfl) (O_gr (c := 7) (j := 0) X rfl inW6 (by decide) fl_X6_11 rfl dX6_init_63)) (L_iload_n (x := s20) 0 X dX6_init_66 rfl rfl) (XE_new (c := 6) (ks0 := 3) (kc0 := 1) (fun st mm a b hc hs h => g_new (c := 6) tyX5 X rfl inW5 tyX5_ok cl_X6_9 in_5 ii_5 (by decide +kernel) hc hs dX6_init_67 h) (S_dup X dX6_init_70) (show OP1 k _ pR pU _ _ _ _ _ _ _ from (fun r  st mm a b hd hc hs h => g_callINo (st := st) (cI := 6) X hT htr (fun q => M_X5_init q ) lk_X5_init im_X5_init rfl ml_X6_41 rfl (by rw [hR]; exact ⟨Nat.le_of_ble_eq_true rfl, Nat.le_of_ble_eq_true rfl⟩) (Nat.le_trans hd (by decide)) ⟨hc, hs⟩ dX6_init_71 h)) rfl) (O_sar (c := 6) X rfl (by decide) rfl dX6_init_74))
  (ST_pre (env' := [(1, .int (s20 + 1)), (0, va_rf (some this))]) (S_iinc 0 X dX6_init_75 rfl rfl (by rw [hN]; decide) rfl)
  (ST_done (upd := (fun (s : Int32) => [(1, .int s), (0, va_rf (some this))])) (s := (s20 + 1)) [0, 1] rfl))) fun _ mm a b h => S_goto X dX6_init_78 (by decide) [] mm a b h))) fun s29 =>
  (SB_let (L_iconst (v := 0) X dX6_init_81 (by decide)) (S_istore_n (ev := fun person_30 => [(1, .int person_30), (0, va_rf (some this))]) X dX6_init_82 rfl (by rw [hN]; decide) (fun _ => rfl)) fun person_30 =>
  (SB_seq (ST_loop (σ := Int32) (upd := (fun (s : Int32) => [(1, .int s), (0, va_rf (some this))])) (s0 := person_30) (n := 6) (fun mm a b h => GG_sub [0, 1] rfl h)
  (fun s31 => (CE_2 wI (L_iload_n (x := s31) 0 X dX6_init_83 rfl rfl) (L_iconst (v := 5) X dX6_init_84 (by decide)) (C_lt_F X dX6_init_85 (by decide))))
  (fun s31 => (ST_post (ST_do (XE_3 wR wI (XE_1 (L_aload_n (r := (some this)) 1 X dX6_init_88 rfl rfl) (O_gr (c := 7) (j := 1) X rfl inW6 (by decide) fl_X6_17 rfl dX6_init_89)) (L_iload_n (x := s31) 0 X dX6_init_92 rfl rfl) (XE_new (c := 3) (ks0 := 3) (kc0 := 2) (fun st mm a b hc hs h => g_new (c := 3) tyX2 X rfl inW2 tyX2_ok cl_X6_15 in_2 ii_2 (by decide +kernel) hc hs dX6_init_93 h) (S_dup X dX6_init_96) (show OP1 k _ pR pU _ _ _ _ _ _ _ from (fun r  st mm a b hd hc hs h => g_callINo (st := st) (cI := 3) X hT htr (fun q => M_X2_init q ) lk_X2_init im_X2_init rfl ml_X6_42 rfl (by rw [hR]; exact ⟨Nat.le_of_ble_eq_true rfl, Nat.le_of_ble_eq_true rfl⟩) (Nat.le_trans hd (by decide)) ⟨hc, hs⟩ dX6_init_97 h)) rfl) (O_sar (c := 3) X rfl (by decide) rfl dX6_init_100))
  (ST_pre (env' := [(1, .int (s31 + 1)), (0, va_rf (some this))]) (S_iinc 0 X dX6_init_101 rfl rfl (by rw [hN]; decide) rfl)
  (ST_done (upd := (fun (s : Int32) => [(1, .int s), (0, va_rf (some this))])) (s := (s31 + 1)) [0, 1] rfl))) fun _ mm a b h => S_goto X dX6_init_104 (by decide) [] mm a b h))) fun s40 =>
  (SB_retU X C hr dX6_init_107)))))))))))) h (by rw [hR]; decide) (by rw [hR]; decide)
theorem dX6_zoneNumbered_0 : decode cX6_zoneNumbered 0 = .ok (.iload_n 1, 1) := by decide +kernel
theorem dX6_zoneNumbered_1 : decode cX6_zoneNumbered 1 = .ok (.ifCond .lt 8, 3) := by decide +kernel
theorem dX6_zoneNumbered_4 : decode cX6_zoneNumbered 4 = .ok (.iload_n 1, 1) := by decide +kernel
theorem dX6_zoneNumbered_5 : decode cX6_zoneNumbered 5 = .ok (.iconst 3, 1) := by decide +kernel
theorem dX6_zoneNumbered_6 : decode cX6_zoneNumbered 6 = .ok (.if_icmp .lt 11, 3) := by decide +kernel
theorem dX6_zoneNumbered_9 : decode cX6_zoneNumbered 9 = .ok (.new 281, 3) := by decide +kernel
theorem dX6_zoneNumbered_12 : decode cX6_zoneNumbered 12 = .ok (.dup, 1) := by decide +kernel
theorem dX6_zoneNumbered_13 : decode cX6_zoneNumbered 13 = .ok (.invokespecial 283, 3) := by decide +kernel
theorem dX6_zoneNumbered_16 : decode cX6_zoneNumbered 16 = .ok (.athrow, 1) := by decide +kernel
theorem dX6_zoneNumbered_17 : decode cX6_zoneNumbered 17 = .ok (.aload_n 0, 1) := by decide +kernel
theorem dX6_zoneNumbered_18 : decode cX6_zoneNumbered 18 = .ok (.getfield 11, 3) := by decide +kernel
theorem dX6_zoneNumbered_21 : decode cX6_zoneNumbered 21 = .ok (.iload_n 1, 1) := by decide +kernel
theorem dX6_zoneNumbered_22 : decode cX6_zoneNumbered 22 = .ok (.aaload, 1) := by decide +kernel
theorem dX6_zoneNumbered_23 : decode cX6_zoneNumbered 23 = .ok (.areturn, 1) := by decide +kernel
theorem lk_X6_zoneNumbered : LK yX6_zoneNumbered cX6_zoneNumbered 2 (some (.object "MeetingServer$Zone")) 1 := ⟨qW_at 384 (by decide +kernel) rfl, qW_at 29 (by decide +kernel) rfl, by decide, by decide, by decide +kernel⟩
theorem im_X6_zoneNumbered : Cond.instanceMethod yX6_zoneNumbered ∈ qW := qW_at 383 (by decide +kernel) rfl
theorem se_X6_zoneNumbered : Cond.selects RX6 yX6_zoneNumbered yX6_zoneNumbered ∈ qW := qW_at 5 (by decide +kernel) rfl
def F_X6_zoneNumbered (this : Nat) (zone_ : Int32) : QX (Option Nat) :=
  (xb (xb (xb (xp zone_) fun v1 => xp (decide (v1 < 0))) fun v4 => if v4 then xp true else (xb (xp zone_) fun v2 => xb (xp (3 : Int32)) fun v3 => xp (decide (v3 ≤ v2)))) fun v8 => if v8 then (xth 1) else
  (xb (xb (xp (some this)) fun v5 => xgr 7 0 v5) fun v6 => xb (xp zone_) fun v7 => xar 6 v6 v7))
set_option maxRecDepth 100000 in
set_option maxHeartbeats 4000000 in
theorem M_X6_zoneNumbered (this : Nat) (zone_ : Int32) : MM yX6_zoneNumbered cX6_zoneNumbered 2 (some (.object "MeetingServer$Zone")) 6 81 1 6 encR [.ref this, .int zone_] (F_X6_zoneNumbered this zone_) := by
  refine MM_of (env0 := [(0, va_rf (some this)), (1, .int zone_)]) (by decide) (by exact Nat.le_of_ble_eq_true rfl) (by rfl) (fun k mm res X C hR hN hr hname h => ?_)
  have X : CX k cX6_zoneNumbered RX6 := X
  have hT : TH k (fun e m' => res = (.error e, m')) := TH_of C
  have htr := C.2.2.2.1
  unfold F_X6_zoneNumbered at h
  exact SB_go (T := fun e m' => res = (.error e, m')) (RET := fun v m' => res = (.ok v, m')) (SB_if (CE_or (CE_1 (L_iload_n (x := zone_) 1 X dX6_zoneNumbered_0 rfl rfl) (Z_lt_T X dX6_zoneNumbered_1 (by decide))) (CE_2 wI (L_iload_n (x := zone_) 1 X dX6_zoneNumbered_4 rfl rfl) (L_iconst (v := 3) X dX6_zoneNumbered_5 (by decide)) (C_ge_F X dX6_zoneNumbered_6 (by decide))))
  (SB_throw fun mm a b ha hb h => g_throw (e := 1) X C (by decide) tk_X6_281_283 ti_1 ta_X6_281_283 tg_X6_281_283 (by rw [hR]; exact Nat.le_of_ble_eq_true rfl) (by rw [hR]; exact Nat.le_of_ble_eq_true rfl) ha hb dX6_zoneNumbered_9 dX6_zoneNumbered_12 dX6_zoneNumbered_13 dX6_zoneNumbered_16 h)
  (SB_retR X C hr (Or.inl ⟨_, rfl⟩) dX6_zoneNumbered_23 (XE_2 wR (XE_1 (L_aload_n (r := (some this)) 0 X dX6_zoneNumbered_17 rfl rfl) (O_gr (c := 7) (j := 0) X rfl inW6 (by decide) fl_X6_11 rfl dX6_zoneNumbered_18)) (L_iload_n (x := zone_) 1 X dX6_zoneNumbered_21 rfl rfl) (O_ar (c := 6) X (by decide) rfl dX6_zoneNumbered_22)))) h (by rw [hR]; decide) (by rw [hR]; decide)
theorem dX6_needArgument_0 : decode cX6_needArgument 0 = .ok (.iload_n 0, 1) := by decide +kernel
theorem dX6_needArgument_1 : decode cX6_needArgument 1 = .ok (.ifCond .ne 11, 3) := by decide +kernel
theorem dX6_needArgument_4 : decode cX6_needArgument 4 = .ok (.new 351, 3) := by decide +kernel
theorem dX6_needArgument_7 : decode cX6_needArgument 7 = .ok (.dup, 1) := by decide +kernel
theorem dX6_needArgument_8 : decode cX6_needArgument 8 = .ok (.invokespecial 353, 3) := by decide +kernel
theorem dX6_needArgument_11 : decode cX6_needArgument 11 = .ok (.athrow, 1) := by decide +kernel
theorem dX6_needArgument_12 : decode cX6_needArgument 12 = .ok (.return_, 1) := by decide +kernel
theorem lk_X6_needArgument : LK yX6_needArgument cX6_needArgument 1 none 1 := ⟨qW_at 166 (by decide +kernel) rfl, qW_at 29 (by decide +kernel) rfl, by decide, by decide, by decide +kernel⟩
theorem st_X6_needArgument : Cond.static yX6_needArgument ∈ qW := qW_at 165 (by decide +kernel) rfl
def F_X6_needArgument (isRight_ : Int32) : QX Unit :=
  (xb (xb (xb (xp isRight_) fun v1 => xp (decide (¬ v1 = 0))) fun v2 => xp (!v2)) fun v3 => if v3 then (xth 2) else
  (xp ()))
set_option maxRecDepth 100000 in
set_option maxHeartbeats 4000000 in
theorem M_X6_needArgument (isRight_ : Int32) : MM yX6_needArgument cX6_needArgument 1 none 6 81 1 6 encU [.int isRight_] (F_X6_needArgument isRight_) := by
  refine MM_of (env0 := [(0, .int isRight_)]) (by decide) (by exact Nat.le_of_ble_eq_true rfl) (by rfl) (fun k mm res X C hR hN hr hname h => ?_)
  have X : CX k cX6_needArgument RX6 := X
  have hT : TH k (fun e m' => res = (.error e, m')) := TH_of C
  have htr := C.2.2.2.1
  unfold F_X6_needArgument at h
  exact SB_go (T := fun e m' => res = (.error e, m')) (RET := fun v m' => res = (.ok v, m')) (SB_if (CE_not (CE_1 (L_iload_n (x := isRight_) 0 X dX6_needArgument_0 rfl rfl) (Z_ne_T X dX6_needArgument_1 (by decide))))
  (SB_throw fun mm a b ha hb h => g_throw (e := 2) X C (by decide) tk_X6_351_353 ti_2 ta_X6_351_353 tg_X6_351_353 (by rw [hR]; exact Nat.le_of_ble_eq_true rfl) (by rw [hR]; exact Nat.le_of_ble_eq_true rfl) ha hb dX6_needArgument_4 dX6_needArgument_7 dX6_needArgument_8 dX6_needArgument_11 h)
  (SB_retU X C hr dX6_needArgument_12)) h (by rw [hR]; decide) (by rw [hR]; decide)
theorem dX6_needRange_0 : decode cX6_needRange 0 = .ok (.iload_n 0, 1) := by decide +kernel
theorem dX6_needRange_1 : decode cX6_needRange 1 = .ok (.iload_n 1, 1) := by decide +kernel
theorem dX6_needRange_2 : decode cX6_needRange 2 = .ok (.if_icmp .lt 12, 3) := by decide +kernel
theorem dX6_needRange_5 : decode cX6_needRange 5 = .ok (.iload_n 0, 1) := by decide +kernel
theorem dX6_needRange_6 : decode cX6_needRange 6 = .ok (.iload_n 2, 1) := by decide +kernel
theorem dX6_needRange_7 : decode cX6_needRange 7 = .ok (.if_icmp .gt 7, 3) := by decide +kernel
theorem dX6_needRange_10 : decode cX6_needRange 10 = .ok (.iconst 1, 1) := by decide +kernel
theorem dX6_needRange_11 : decode cX6_needRange 11 = .ok (.goto 4, 3) := by decide +kernel
theorem dX6_needRange_14 : decode cX6_needRange 14 = .ok (.iconst 0, 1) := by decide +kernel
theorem dX6_needRange_15 : decode cX6_needRange 15 = .ok (.invokestatic 144, 3) := by decide +kernel
theorem dX6_needRange_18 : decode cX6_needRange 18 = .ok (.return_, 1) := by decide +kernel
theorem lk_X6_needRange : LK yX6_needRange cX6_needRange 3 none 3 := ⟨qW_at 163 (by decide +kernel) rfl, qW_at 29 (by decide +kernel) rfl, by decide, by decide, by decide +kernel⟩
theorem st_X6_needRange : Cond.static yX6_needRange ∈ qW := qW_at 162 (by decide +kernel) rfl
def F_X6_needRange (value_ : Int32) (lowest_ : Int32) (highest_ : Int32) : QX Unit :=
  (xb (xb (xb (xb (xb (xp value_) fun v1 => xb (xp lowest_) fun v2 => xp (decide (v2 ≤ v1))) fun v5 => if v5 then (xb (xp value_) fun v3 => xb (xp highest_) fun v4 => xp (decide (v3 ≤ v4))) else xp false) fun v6 => xp (b2i v6)) fun v7 => F_X6_needArgument v7) fun _ =>
  (xp ()))
set_option maxRecDepth 100000 in
set_option maxHeartbeats 4000000 in
theorem M_X6_needRange (value_ : Int32) (lowest_ : Int32) (highest_ : Int32) : MM yX6_needRange cX6_needRange 3 none 7 101 1 6 encU [.int value_, .int lowest_, .int highest_] (F_X6_needRange value_ lowest_ highest_) := by
  refine MM_of (env0 := [(0, .int value_), (1, .int lowest_), (2, .int highest_)]) (by decide) (by exact Nat.le_of_ble_eq_true rfl) (by rfl) (fun k mm res X C hR hN hr hname h => ?_)
  have X : CX k cX6_needRange RX6 := X
  have hT : TH k (fun e m' => res = (.error e, m')) := TH_of C
  have htr := C.2.2.2.1
  unfold F_X6_needRange at h
  exact SB_go (T := fun e m' => res = (.error e, m')) (RET := fun v m' => res = (.ok v, m')) (SB_do (XE_1 (pB := pU)  (XE_b2i (CE_and (CE_2 wI (L_iload_n (x := value_) 0 X dX6_needRange_0 rfl rfl) (L_iload_n (x := lowest_) 1 X dX6_needRange_1 rfl rfl) (C_ge_F X dX6_needRange_2 (by decide))) (CE_2 wI (L_iload_n (x := value_) 0 X dX6_needRange_5 rfl rfl) (L_iload_n (x := highest_) 2 X dX6_needRange_6 rfl rfl) (C_le_F X dX6_needRange_7 (by decide)))) (S_b1 X dX6_needRange_10 dX6_needRange_11 (by decide)) (S_b0 X dX6_needRange_14)) (fun v0 st mm a b hd hc hs h => g_callS (st := st) X hT htr (M_X6_needArgument v0) lk_X6_needArgument st_X6_needArgument ml_X6_144 rfl (by rw [hR]; exact ⟨Nat.le_of_ble_eq_true rfl, Nat.le_of_ble_eq_true rfl⟩) (Nat.le_trans hd (by decide)) ⟨hc, hs⟩ dX6_needRange_15 h))
  (SB_retU X C hr dX6_needRange_18)) h (by rw [hR]; decide) (by rw [hR]; decide)
theorem dX6_setOffset_0 : decode cX6_setOffset 0 = .ok (.aload_n 0, 1) := by decide +kernel
theorem dX6_setOffset_1 : decode cX6_setOffset 1 = .ok (.iload_n 1, 1) := by decide +kernel
theorem dX6_setOffset_2 : decode cX6_setOffset 2 = .ok (.invokevirtual 43, 3) := by decide +kernel
theorem dX6_setOffset_5 : decode cX6_setOffset 5 = .ok (.astore_n 3, 1) := by decide +kernel
theorem dX6_setOffset_6 : decode cX6_setOffset 6 = .ok (.iload_n 2, 1) := by decide +kernel
theorem dX6_setOffset_7 : decode cX6_setOffset 7 = .ok (.bipush (-12), 2) := by decide +kernel
theorem dX6_setOffset_9 : decode cX6_setOffset 9 = .ok (.bipush 12, 2) := by decide +kernel
theorem dX6_setOffset_11 : decode cX6_setOffset 11 = .ok (.invokestatic 47, 3) := by decide +kernel
theorem dX6_setOffset_14 : decode cX6_setOffset 14 = .ok (.aload_n 3, 1) := by decide +kernel
theorem dX6_setOffset_15 : decode cX6_setOffset 15 = .ok (.getfield 51, 3) := by decide +kernel
theorem dX6_setOffset_18 : decode cX6_setOffset 18 = .ok (.istore 4, 2) := by decide +kernel
theorem dX6_setOffset_20 : decode cX6_setOffset 20 = .ok (.aload_n 3, 1) := by decide +kernel
theorem dX6_setOffset_21 : decode cX6_setOffset 21 = .ok (.iload_n 2, 1) := by decide +kernel
theorem dX6_setOffset_22 : decode cX6_setOffset 22 = .ok (.putfield 51, 3) := by decide +kernel
theorem dX6_setOffset_25 : decode cX6_setOffset 25 = .ok (.iload 4, 2) := by decide +kernel
theorem dX6_setOffset_27 : decode cX6_setOffset 27 = .ok (.ireturn, 1) := by decide +kernel
theorem lk_X6_setOffset : LK yX6_setOffset cX6_setOffset 5 (some .int) 2 := ⟨qW_at 1045 (by decide +kernel) rfl, qW_at 29 (by decide +kernel) rfl, by decide, by decide, by decide +kernel⟩
theorem im_X6_setOffset : Cond.instanceMethod yX6_setOffset ∈ qW := qW_at 1043 (by decide +kernel) rfl
theorem se_X6_setOffset : Cond.selects RX6 yX6_setOffset yX6_setOffset ∈ qW := qW_at 1044 (by decide +kernel) rfl
def F_X6_setOffset (this : Nat) (zone_ : Int32) (offset_ : Int32) : QX Int32 :=
  (xb (xb (xp (some this)) fun v1 => xb (xp zone_) fun v2 => xo 7 v1 fun q => F_X6_zoneNumbered q v2) fun changed_3 =>
  (xb (xb (xp offset_) fun v4 => xb (xp (-12 : Int32)) fun v5 => xb (xp (12 : Int32)) fun v6 => F_X6_needRange v4 v5 v6) fun _ =>
  (xb (xb (xp changed_3) fun v7 => xgi 6 0 v7) fun before_8 =>
  (xb (xb (xp changed_3) fun v9 => xb (xp offset_) fun v10 => xsi 6 0 v9 v10) fun _ =>
  (xp before_8)))))
set_option maxRecDepth 100000 in
set_option maxHeartbeats 4000000 in
theorem M_X6_setOffset (this : Nat) (zone_ : Int32) (offset_ : Int32) : MM yX6_setOffset cX6_setOffset 5 (some .int) 8 123 2 12 encI [.ref this, .int zone_, .int offset_] (F_X6_setOffset this zone_ offset_) := by
  refine MM_of (env0 := [(0, va_rf (some this)), (1, .int zone_), (2, .int offset_)]) (by decide) (by exact Nat.le_of_ble_eq_true rfl) (by rfl) (fun k mm res X C hR hN hr hname h => ?_)
  have X : CX k cX6_setOffset RX6 := X
  have hT : TH k (fun e m' => res = (.error e, m')) := TH_of C
  have htr := C.2.2.2.1
  unfold F_X6_setOffset at h
  exact SB_go (T := fun e m' => res = (.error e, m')) (RET := fun v m' => res = (.ok v, m')) (SB_let (XE_2 (pB := pR) wR (L_aload_n (r := (some this)) 0 X dX6_setOffset_0 rfl rfl) (L_iload_n (x := zone_) 1 X dX6_setOffset_1 rfl rfl) (fun v0 v1 st mm a b hd hc hs h => g_callVo (st := st) (cI := 7) X hT htr rfl (fun q => M_X6_zoneNumbered q v1) lk_X6_zoneNumbered im_X6_zoneNumbered se_X6_zoneNumbered ml_X6_43 rfl (by rw [hR]; exact ⟨Nat.le_of_ble_eq_true rfl, Nat.le_of_ble_eq_true rfl⟩) (Nat.le_trans hd (by decide)) ⟨hc, hs⟩ dX6_setOffset_2 h)) (S_astore_n (ev := fun changed_3 => [(3, va_rf changed_3), (0, va_rf (some this)), (1, .int zone_), (2, .int offset_)]) X dX6_setOffset_5 rfl (by rw [hN]; decide) (fun _ => rfl)) fun changed_3 =>
  (SB_do (XE_3 (pB := pU) wI wI (L_iload_n (x := offset_) 3 X dX6_setOffset_6 rfl rfl) (L_bipush (v := (-12)) X dX6_setOffset_7 (by decide)) (L_bipush (v := (12)) X dX6_setOffset_9 (by decide)) (fun v0 v1 v2 st mm a b hd hc hs h => g_callS (st := st) X hT htr (M_X6_needRange v0 v1 v2) lk_X6_needRange st_X6_needRange ml_X6_47 rfl (by rw [hR]; exact ⟨Nat.le_of_ble_eq_true rfl, Nat.le_of_ble_eq_true rfl⟩) (Nat.le_trans hd (by decide)) ⟨hc, hs⟩ dX6_setOffset_11 h))
  (SB_let (XE_1 (L_aload_n (r := changed_3) 0 X dX6_setOffset_14 rfl rfl) (O_gi (c := 6) (j := 0) X rfl inW5 (by decide) fl_X6_51 rfl dX6_setOffset_15)) (S_istore (ev := fun before_8 => [(4, .int before_8), (3, va_rf changed_3), (0, va_rf (some this)), (1, .int zone_), (2, .int offset_)]) X dX6_setOffset_18 (by rw [hN]; decide) (fun _ => (by cases changed_3 <;> rfl))) fun before_8 =>
  (SB_do (XE_2 wR (L_aload_n (r := changed_3) 1 X dX6_setOffset_20 rfl rfl) (L_iload_n (x := offset_) 4 X dX6_setOffset_21 rfl rfl) (O_si (c := 6) (j := 0) tyX5 X rfl inW5 tyX5_ok nmX5 (by decide) fl_X6_51 (Or.inl rfl) rfl (by decide +kernel) dX6_setOffset_22))
  (SB_retI X C hr dX6_setOffset_27 (L_iload (x := before_8) 0 X dX6_setOffset_25 rfl)))))) h (by rw [hR]; decide) (by rw [hR]; decide)
theorem dX6_needDay_0 : decode cX6_needDay 0 = .ok (.iload_n 0, 1) := by decide +kernel
theorem dX6_needDay_1 : decode cX6_needDay 1 = .ok (.invokestatic 210, 3) := by decide +kernel
theorem dX6_needDay_4 : decode cX6_needDay 4 = .ok (.invokestatic 144, 3) := by decide +kernel
theorem dX6_needDay_7 : decode cX6_needDay 7 = .ok (.return_, 1) := by decide +kernel
theorem lk_X6_needDay : LK yX6_needDay cX6_needDay 1 none 1 := ⟨qW_at 456 (by decide +kernel) rfl, qW_at 29 (by decide +kernel) rfl, by decide, by decide, by decide +kernel⟩
theorem st_X6_needDay : Cond.static yX6_needDay ∈ qW := qW_at 455 (by decide +kernel) rfl
def F_X6_needDay (day_ : Int32) : QX Unit :=
  (xb (xb (xb (xp day_) fun v1 => F_X6_isDay v1) fun v2 => F_X6_needArgument v2) fun _ =>
  (xp ()))
set_option maxRecDepth 100000 in
set_option maxHeartbeats 4000000 in
theorem M_X6_needDay (day_ : Int32) : MM yX6_needDay cX6_needDay 1 none 7 101 1 6 encU [.int day_] (F_X6_needDay day_) := by
  refine MM_of (env0 := [(0, .int day_)]) (by decide) (by exact Nat.le_of_ble_eq_true rfl) (by rfl) (fun k mm res X C hR hN hr hname h => ?_)
  have X : CX k cX6_needDay RX6 := X
  have hT : TH k (fun e m' => res = (.error e, m')) := TH_of C
  have htr := C.2.2.2.1
  unfold F_X6_needDay at h
  exact SB_go (T := fun e m' => res = (.error e, m')) (RET := fun v m' => res = (.ok v, m')) (SB_do (XE_1 (pB := pU)  (XE_1 (pB := pI)  (L_iload_n (x := day_) 0 X dX6_needDay_0 rfl rfl) (fun v0 st mm a b hd hc hs h => g_callS (st := st) X hT htr (M_X6_isDay v0) lk_X6_isDay st_X6_isDay ml_X6_210 rfl (by rw [hR]; exact ⟨Nat.le_of_ble_eq_true rfl, Nat.le_of_ble_eq_true rfl⟩) (Nat.le_trans hd (by decide)) ⟨hc, hs⟩ dX6_needDay_1 h)) (fun v0 st mm a b hd hc hs h => g_callS (st := st) X hT htr (M_X6_needArgument v0) lk_X6_needArgument st_X6_needArgument ml_X6_144 rfl (by rw [hR]; exact ⟨Nat.le_of_ble_eq_true rfl, Nat.le_of_ble_eq_true rfl⟩) (Nat.le_trans hd (by decide)) ⟨hc, hs⟩ dX6_needDay_4 h))
  (SB_retU X C hr dX6_needDay_7)) h (by rw [hR]; decide) (by rw [hR]; decide)
theorem dX6_setSummer_0 : decode cX6_setSummer 0 = .ok (.aload_n 0, 1) := by decide +kernel
theorem dX6_setSummer_1 : decode cX6_setSummer 1 = .ok (.iload_n 1, 1) := by decide +kernel
theorem dX6_setSummer_2 : decode cX6_setSummer 2 = .ok (.invokevirtual 43, 3) := by decide +kernel
theorem dX6_setSummer_5 : decode cX6_setSummer 5 = .ok (.astore 4, 2) := by decide +kernel
theorem dX6_setSummer_7 : decode cX6_setSummer 7 = .ok (.iload_n 2, 1) := by decide +kernel
theorem dX6_setSummer_8 : decode cX6_setSummer 8 = .ok (.iconst (-1), 1) := by decide +kernel
theorem dX6_setSummer_9 : decode cX6_setSummer 9 = .ok (.if_icmp .eq 16, 3) := by decide +kernel
theorem dX6_setSummer_12 : decode cX6_setSummer 12 = .ok (.iload_n 2, 1) := by decide +kernel
theorem dX6_setSummer_13 : decode cX6_setSummer 13 = .ok (.invokestatic 55, 3) := by decide +kernel
theorem dX6_setSummer_16 : decode cX6_setSummer 16 = .ok (.iload_n 3, 1) := by decide +kernel
theorem dX6_setSummer_17 : decode cX6_setSummer 17 = .ok (.iload_n 2, 1) := by decide +kernel
theorem dX6_setSummer_18 : decode cX6_setSummer 18 = .ok (.iconst 1, 1) := by decide +kernel
theorem dX6_setSummer_19 : decode cX6_setSummer 19 = .ok (.iadd, 1) := by decide +kernel
theorem dX6_setSummer_20 : decode cX6_setSummer 20 = .ok (.bipush 60, 2) := by decide +kernel
theorem dX6_setSummer_22 : decode cX6_setSummer 22 = .ok (.invokestatic 47, 3) := by decide +kernel
theorem dX6_setSummer_25 : decode cX6_setSummer 25 = .ok (.aload 4, 2) := by decide +kernel
theorem dX6_setSummer_27 : decode cX6_setSummer 27 = .ok (.getfield 59, 3) := by decide +kernel
theorem dX6_setSummer_30 : decode cX6_setSummer 30 = .ok (.istore 5, 2) := by decide +kernel
theorem dX6_setSummer_32 : decode cX6_setSummer 32 = .ok (.aload 4, 2) := by decide +kernel
theorem dX6_setSummer_34 : decode cX6_setSummer 34 = .ok (.iload_n 2, 1) := by decide +kernel
theorem dX6_setSummer_35 : decode cX6_setSummer 35 = .ok (.putfield 59, 3) := by decide +kernel
theorem dX6_setSummer_38 : decode cX6_setSummer 38 = .ok (.aload 4, 2) := by decide +kernel
theorem dX6_setSummer_40 : decode cX6_setSummer 40 = .ok (.iload_n 3, 1) := by decide +kernel
theorem dX6_setSummer_41 : decode cX6_setSummer 41 = .ok (.putfield 62, 3) := by decide +kernel
theorem dX6_setSummer_44 : decode cX6_setSummer 44 = .ok (.iload 5, 2) := by decide +kernel
theorem dX6_setSummer_46 : decode cX6_setSummer 46 = .ok (.ireturn, 1) := by decide +kernel
theorem lk_X6_setSummer : LK yX6_setSummer cX6_setSummer 6 (some .int) 3 := ⟨qW_at 1052 (by decide +kernel) rfl, qW_at 29 (by decide +kernel) rfl, by decide, by decide, by decide +kernel⟩
theorem im_X6_setSummer : Cond.instanceMethod yX6_setSummer ∈ qW := qW_at 1050 (by decide +kernel) rfl
theorem se_X6_setSummer : Cond.selects RX6 yX6_setSummer yX6_setSummer ∈ qW := qW_at 1051 (by decide +kernel) rfl
def F_X6_setSummer (this : Nat) (zone_ : Int32) (first_ : Int32) (last_ : Int32) : QX Int32 :=
  (xb (xb (xp (some this)) fun v1 => xb (xp zone_) fun v2 => xo 7 v1 fun q => F_X6_zoneNumbered q v2) fun changed_3 =>
  (xb (xb (xb (xp first_) fun v4 => xb (xp (-1 : Int32)) fun v5 => xp (decide (¬ v4 = v5))) fun v12 => if v12 then (xb (xb (xp first_) fun v6 => F_X6_needDay v6) fun _ =>
  (xb (xb (xp last_) fun v9 => xb (xb (xp first_) fun v7 => xb (xp (1 : Int32)) fun v8 => (xp (v7 + v8))) fun v10 => xb (xp (60 : Int32)) fun v11 => F_X6_needRange v9 v10 v11) fun _ =>
  (xp ()))) else (xp ())) fun s13 =>
  (xb (xb (xp changed_3) fun v14 => xgi 6 1 v14) fun before_15 =>
  (xb (xb (xp changed_3) fun v16 => xb (xp first_) fun v17 => xsi 6 1 v16 v17) fun _ =>
  (xb (xb (xp changed_3) fun v18 => xb (xp last_) fun v19 => xsi 6 2 v18 v19) fun _ =>
  (xp before_15))))))
set_option maxRecDepth 100000 in
set_option maxHeartbeats 4000000 in
theorem M_X6_setSummer (this : Nat) (zone_ : Int32) (first_ : Int32) (last_ : Int32) : MM yX6_setSummer cX6_setSummer 6 (some .int) 8 123 3 18 encI [.ref this, .int zone_, .int first_, .int last_] (F_X6_setSummer this zone_ first_ last_) := by
  refine MM_of (env0 := [(0, va_rf (some this)), (1, .int zone_), (2, .int first_), (3, .int last_)]) (by decide) (by exact Nat.le_of_ble_eq_true rfl) (by rfl) (fun k mm res X C hR hN hr hname h => ?_)
  have X : CX k cX6_setSummer RX6 := X
  have hT : TH k (fun e m' => res = (.error e, m')) := TH_of C
  have htr := C.2.2.2.1
  unfold F_X6_setSummer at h
  exact SB_go (T := fun e m' => res = (.error e, m')) (RET := fun v m' => res = (.ok v, m')) (SB_let (XE_2 (pB := pR) wR (L_aload_n (r := (some this)) 0 X dX6_setSummer_0 rfl rfl) (L_iload_n (x := zone_) 1 X dX6_setSummer_1 rfl rfl) (fun v0 v1 st mm a b hd hc hs h => g_callVo (st := st) (cI := 7) X hT htr rfl (fun q => M_X6_zoneNumbered q v1) lk_X6_zoneNumbered im_X6_zoneNumbered se_X6_zoneNumbered ml_X6_43 rfl (by rw [hR]; exact ⟨Nat.le_of_ble_eq_true rfl, Nat.le_of_ble_eq_true rfl⟩) (Nat.le_trans hd (by decide)) ⟨hc, hs⟩ dX6_setSummer_2 h)) (S_astore (ev := fun changed_3 => [(4, va_rf changed_3), (0, va_rf (some this)), (1, .int zone_), (2, .int first_), (3, .int last_)]) X dX6_setSummer_5 (by rw [hN]; decide) (fun _ => rfl)) fun changed_3 =>
  (SB_seq (ST_if (CE_2 wI (L_iload_n (x := first_) 3 X dX6_setSummer_7 rfl rfl) (L_iconst (v := (-1)) X dX6_setSummer_8 (by decide)) (C_ne_F X dX6_setSummer_9 (by decide)))
  (ST_do (XE_1 (pB := pU)  (L_iload_n (x := first_) 3 X dX6_setSummer_12 rfl rfl) (fun v0 st mm a b hd hc hs h => g_callS (st := st) X hT htr (M_X6_needDay v0) lk_X6_needDay st_X6_needDay ml_X6_55 rfl (by rw [hR]; exact ⟨Nat.le_of_ble_eq_true rfl, Nat.le_of_ble_eq_true rfl⟩) (Nat.le_trans hd (by decide)) ⟨hc, hs⟩ dX6_setSummer_13 h))
  (ST_do (XE_3 (pB := pU) wI wI (L_iload_n (x := last_) 4 X dX6_setSummer_16 rfl rfl) (XE_2 wI (L_iload_n (x := first_) 3 X dX6_setSummer_17 rfl rfl) (L_iconst (v := 1) X dX6_setSummer_18 (by decide)) (O_iadd X dX6_setSummer_19)) (L_bipush (v := (60)) X dX6_setSummer_20 (by decide)) (fun v0 v1 v2 st mm a b hd hc hs h => g_callS (st := st) X hT htr (M_X6_needRange v0 v1 v2) lk_X6_needRange st_X6_needRange ml_X6_47 rfl (by rw [hR]; exact ⟨Nat.le_of_ble_eq_true rfl, Nat.le_of_ble_eq_true rfl⟩) (Nat.le_trans hd (by decide)) ⟨hc, hs⟩ dX6_setSummer_22 h))
  (ST_done (upd := (fun (s : Unit) => [(4, va_rf changed_3), (0, va_rf (some this)), (1, .int zone_), (2, .int first_), (3, .int last_)])) (s := ()) [0, 1, 2, 3, 4] rfl)))
  (ST_done (upd := (fun (s : Unit) => [(4, va_rf changed_3), (0, va_rf (some this)), (1, .int zone_), (2, .int first_), (3, .int last_)])) (s := ()) [0, 1, 2, 3, 4] rfl)) fun s13 =>
  (SB_let (XE_1 (L_aload (r := changed_3) 0 X dX6_setSummer_25 rfl) (O_gi (c := 6) (j := 1) X rfl inW5 (by decide) fl_X6_59 rfl dX6_setSummer_27)) (S_istore (ev := fun before_15 => [(5, .int before_15), (4, va_rf changed_3), (0, va_rf (some this)), (1, .int zone_), (2, .int first_), (3, .int last_)]) X dX6_setSummer_30 (by rw [hN]; decide) (fun _ => (by cases changed_3 <;> rfl))) fun before_15 =>
  (SB_do (XE_2 wR (L_aload (r := changed_3) 1 X dX6_setSummer_32 rfl) (L_iload_n (x := first_) 4 X dX6_setSummer_34 rfl rfl) (O_si (c := 6) (j := 1) tyX5 X rfl inW5 tyX5_ok nmX5 (by decide) fl_X6_59 (Or.inl rfl) rfl (by decide +kernel) dX6_setSummer_35))
  (SB_do (XE_2 wR (L_aload (r := changed_3) 1 X dX6_setSummer_38 rfl) (L_iload_n (x := last_) 5 X dX6_setSummer_40 rfl rfl) (O_si (c := 6) (j := 2) tyX5 X rfl inW5 tyX5_ok nmX5 (by decide) fl_X6_62 (Or.inl rfl) rfl (by decide +kernel) dX6_setSummer_41))
  (SB_retI X C hr dX6_setSummer_46 (L_iload (x := before_15) 0 X dX6_setSummer_44 rfl))))))) h (by rw [hR]; decide) (by rw [hR]; decide)
theorem dX6_common_0 : decode cX6_common 0 = .ok (.aload_n 0, 1) := by decide +kernel
theorem dX6_common_1 : decode cX6_common 1 = .ok (.iload_n 1, 1) := by decide +kernel
theorem dX6_common_2 : decode cX6_common 2 = .ok (.invokevirtual 43, 3) := by decide +kernel
theorem dX6_common_5 : decode cX6_common 5 = .ok (.astore_n 3, 1) := by decide +kernel
theorem dX6_common_6 : decode cX6_common 6 = .ok (.iload_n 2, 1) := by decide +kernel
theorem dX6_common_7 : decode cX6_common 7 = .ok (.bipush (-100), 2) := by decide +kernel
theorem dX6_common_9 : decode cX6_common 9 = .ok (.sipush 2000, 3) := by decide +kernel
theorem dX6_common_12 : decode cX6_common 12 = .ok (.invokestatic 47, 3) := by decide +kernel
theorem dX6_common_15 : decode cX6_common 15 = .ok (.aload_n 3, 1) := by decide +kernel
theorem dX6_common_16 : decode cX6_common 16 = .ok (.iload_n 2, 1) := by decide +kernel
theorem dX6_common_17 : decode cX6_common 17 = .ok (.invokevirtual 65, 3) := by decide +kernel
theorem dX6_common_20 : decode cX6_common 20 = .ok (.ireturn, 1) := by decide +kernel
theorem lk_X6_common : LK yX6_common cX6_common 4 (some .int) 2 := ⟨qW_at 395 (by decide +kernel) rfl, qW_at 29 (by decide +kernel) rfl, by decide, by decide, by decide +kernel⟩
theorem im_X6_common : Cond.instanceMethod yX6_common ∈ qW := qW_at 393 (by decide +kernel) rfl
theorem se_X6_common : Cond.selects RX6 yX6_common yX6_common ∈ qW := qW_at 394 (by decide +kernel) rfl
def F_X6_common (this : Nat) (zone_ : Int32) (local_ : Int32) : QX Int32 :=
  (xb (xb (xp (some this)) fun v1 => xb (xp zone_) fun v2 => xo 7 v1 fun q => F_X6_zoneNumbered q v2) fun asked_3 =>
  (xb (xb (xp local_) fun v4 => xb (xp (-100 : Int32)) fun v5 => xb (xp (2000 : Int32)) fun v6 => F_X6_needRange v4 v5 v6) fun _ =>
  (xb (xp asked_3) fun v7 => xb (xp local_) fun v8 => xo 6 v7 fun q => F_X5_toCommon q v8)))
set_option maxRecDepth 100000 in
set_option maxHeartbeats 4000000 in
theorem M_X6_common (this : Nat) (zone_ : Int32) (local_ : Int32) : MM yX6_common cX6_common 4 (some .int) 8 123 2 12 encI [.ref this, .int zone_, .int local_] (F_X6_common this zone_ local_) := by
  refine MM_of (env0 := [(0, va_rf (some this)), (1, .int zone_), (2, .int local_)]) (by decide) (by exact Nat.le_of_ble_eq_true rfl) (by rfl) (fun k mm res X C hR hN hr hname h => ?_)
  have X : CX k cX6_common RX6 := X
  have hT : TH k (fun e m' => res = (.error e, m')) := TH_of C
  have htr := C.2.2.2.1
  unfold F_X6_common at h
  exact SB_go (T := fun e m' => res = (.error e, m')) (RET := fun v m' => res = (.ok v, m')) (SB_let (XE_2 (pB := pR) wR (L_aload_n (r := (some this)) 0 X dX6_common_0 rfl rfl) (L_iload_n (x := zone_) 1 X dX6_common_1 rfl rfl) (fun v0 v1 st mm a b hd hc hs h => g_callVo (st := st) (cI := 7) X hT htr rfl (fun q => M_X6_zoneNumbered q v1) lk_X6_zoneNumbered im_X6_zoneNumbered se_X6_zoneNumbered ml_X6_43 rfl (by rw [hR]; exact ⟨Nat.le_of_ble_eq_true rfl, Nat.le_of_ble_eq_true rfl⟩) (Nat.le_trans hd (by decide)) ⟨hc, hs⟩ dX6_common_2 h)) (S_astore_n (ev := fun asked_3 => [(3, va_rf asked_3), (0, va_rf (some this)), (1, .int zone_), (2, .int local_)]) X dX6_common_5 rfl (by rw [hN]; decide) (fun _ => rfl)) fun asked_3 =>
  (SB_do (XE_3 (pB := pU) wI wI (L_iload_n (x := local_) 3 X dX6_common_6 rfl rfl) (L_bipush (v := (-100)) X dX6_common_7 (by decide)) (L_sipush (v := (2000)) X dX6_common_9 (by decide)) (fun v0 v1 v2 st mm a b hd hc hs h => g_callS (st := st) X hT htr (M_X6_needRange v0 v1 v2) lk_X6_needRange st_X6_needRange ml_X6_47 rfl (by rw [hR]; exact ⟨Nat.le_of_ble_eq_true rfl, Nat.le_of_ble_eq_true rfl⟩) (Nat.le_trans hd (by decide)) ⟨hc, hs⟩ dX6_common_12 h))
  (SB_retI X C hr dX6_common_20 (XE_2 (pB := pI) wR (L_aload_n (r := asked_3) 0 X dX6_common_15 rfl rfl) (L_iload_n (x := local_) 3 X dX6_common_16 rfl rfl) (fun v0 v1 st mm a b hd hc hs h => g_callVo (st := st) (cI := 6) X hT htr rfl (fun q => M_X5_toCommon q v1) lk_X5_toCommon im_X5_toCommon se_X5_toCommon ml_X6_65 rfl (by rw [hR]; exact ⟨Nat.le_of_ble_eq_true rfl, Nat.le_of_ble_eq_true rfl⟩) (Nat.le_trans hd (by decide)) ⟨hc, hs⟩ dX6_common_17 h))))) h (by rw [hR]; decide) (by rw [hR]; decide)
theorem dX6_local_0 : decode cX6_local 0 = .ok (.aload_n 0, 1) := by decide +kernel
theorem dX6_local_1 : decode cX6_local 1 = .ok (.iload_n 1, 1) := by decide +kernel
theorem dX6_local_2 : decode cX6_local 2 = .ok (.invokevirtual 43, 3) := by decide +kernel
theorem dX6_local_5 : decode cX6_local 5 = .ok (.astore_n 3, 1) := by decide +kernel
theorem dX6_local_6 : decode cX6_local 6 = .ok (.iload_n 2, 1) := by decide +kernel
theorem dX6_local_7 : decode cX6_local 7 = .ok (.bipush (-100), 2) := by decide +kernel
theorem dX6_local_9 : decode cX6_local 9 = .ok (.sipush 2000, 3) := by decide +kernel
theorem dX6_local_12 : decode cX6_local 12 = .ok (.invokestatic 47, 3) := by decide +kernel
theorem dX6_local_15 : decode cX6_local 15 = .ok (.aload_n 3, 1) := by decide +kernel
theorem dX6_local_16 : decode cX6_local 16 = .ok (.iload_n 2, 1) := by decide +kernel
theorem dX6_local_17 : decode cX6_local 17 = .ok (.invokevirtual 69, 3) := by decide +kernel
theorem dX6_local_20 : decode cX6_local 20 = .ok (.ireturn, 1) := by decide +kernel
theorem lk_X6_local : LK yX6_local cX6_local 4 (some .int) 2 := ⟨qW_at 380 (by decide +kernel) rfl, qW_at 29 (by decide +kernel) rfl, by decide, by decide, by decide +kernel⟩
theorem im_X6_local : Cond.instanceMethod yX6_local ∈ qW := qW_at 378 (by decide +kernel) rfl
theorem se_X6_local : Cond.selects RX6 yX6_local yX6_local ∈ qW := qW_at 379 (by decide +kernel) rfl
def F_X6_local (this : Nat) (zone_ : Int32) (hour_ : Int32) : QX Int32 :=
  (xb (xb (xp (some this)) fun v1 => xb (xp zone_) fun v2 => xo 7 v1 fun q => F_X6_zoneNumbered q v2) fun asked_3 =>
  (xb (xb (xp hour_) fun v4 => xb (xp (-100 : Int32)) fun v5 => xb (xp (2000 : Int32)) fun v6 => F_X6_needRange v4 v5 v6) fun _ =>
  (xb (xp asked_3) fun v7 => xb (xp hour_) fun v8 => xo 6 v7 fun q => F_X5_toLocal q v8)))
set_option maxRecDepth 100000 in
set_option maxHeartbeats 4000000 in
theorem M_X6_local (this : Nat) (zone_ : Int32) (hour_ : Int32) : MM yX6_local cX6_local 4 (some .int) 8 123 2 12 encI [.ref this, .int zone_, .int hour_] (F_X6_local this zone_ hour_) := by
  refine MM_of (env0 := [(0, va_rf (some this)), (1, .int zone_), (2, .int hour_)]) (by decide) (by exact Nat.le_of_ble_eq_true rfl) (by rfl) (fun k mm res X C hR hN hr hname h => ?_)
  have X : CX k cX6_local RX6 := X
  have hT : TH k (fun e m' => res = (.error e, m')) := TH_of C
  have htr := C.2.2.2.1
  unfold F_X6_local at h
  exact SB_go (T := fun e m' => res = (.error e, m')) (RET := fun v m' => res = (.ok v, m')) (SB_let (XE_2 (pB := pR) wR (L_aload_n (r := (some this)) 0 X dX6_local_0 rfl rfl) (L_iload_n (x := zone_) 1 X dX6_local_1 rfl rfl) (fun v0 v1 st mm a b hd hc hs h => g_callVo (st := st) (cI := 7) X hT htr rfl (fun q => M_X6_zoneNumbered q v1) lk_X6_zoneNumbered im_X6_zoneNumbered se_X6_zoneNumbered ml_X6_43 rfl (by rw [hR]; exact ⟨Nat.le_of_ble_eq_true rfl, Nat.le_of_ble_eq_true rfl⟩) (Nat.le_trans hd (by decide)) ⟨hc, hs⟩ dX6_local_2 h)) (S_astore_n (ev := fun asked_3 => [(3, va_rf asked_3), (0, va_rf (some this)), (1, .int zone_), (2, .int hour_)]) X dX6_local_5 rfl (by rw [hN]; decide) (fun _ => rfl)) fun asked_3 =>
  (SB_do (XE_3 (pB := pU) wI wI (L_iload_n (x := hour_) 3 X dX6_local_6 rfl rfl) (L_bipush (v := (-100)) X dX6_local_7 (by decide)) (L_sipush (v := (2000)) X dX6_local_9 (by decide)) (fun v0 v1 v2 st mm a b hd hc hs h => g_callS (st := st) X hT htr (M_X6_needRange v0 v1 v2) lk_X6_needRange st_X6_needRange ml_X6_47 rfl (by rw [hR]; exact ⟨Nat.le_of_ble_eq_true rfl, Nat.le_of_ble_eq_true rfl⟩) (Nat.le_trans hd (by decide)) ⟨hc, hs⟩ dX6_local_12 h))
  (SB_retI X C hr dX6_local_20 (XE_2 (pB := pI) wR (L_aload_n (r := asked_3) 0 X dX6_local_15 rfl rfl) (L_iload_n (x := hour_) 3 X dX6_local_16 rfl rfl) (fun v0 v1 st mm a b hd hc hs h => g_callVo (st := st) (cI := 6) X hT htr rfl (fun q => M_X5_toLocal q v1) lk_X5_toLocal im_X5_toLocal se_X5_toLocal ml_X6_69 rfl (by rw [hR]; exact ⟨Nat.le_of_ble_eq_true rfl, Nat.le_of_ble_eq_true rfl⟩) (Nat.le_trans hd (by decide)) ⟨hc, hs⟩ dX6_local_17 h))))) h (by rw [hR]; decide) (by rw [hR]; decide)
theorem dX6_needPerson_0 : decode cX6_needPerson 0 = .ok (.iload_n 0, 1) := by decide +kernel
theorem dX6_needPerson_1 : decode cX6_needPerson 1 = .ok (.ifCond .lt 8, 3) := by decide +kernel
theorem dX6_needPerson_4 : decode cX6_needPerson 4 = .ok (.iload_n 0, 1) := by decide +kernel
theorem dX6_needPerson_5 : decode cX6_needPerson 5 = .ok (.iconst 5, 1) := by decide +kernel
theorem dX6_needPerson_6 : decode cX6_needPerson 6 = .ok (.if_icmp .lt 11, 3) := by decide +kernel
theorem dX6_needPerson_9 : decode cX6_needPerson 9 = .ok (.new 281, 3) := by decide +kernel
theorem dX6_needPerson_12 : decode cX6_needPerson 12 = .ok (.dup, 1) := by decide +kernel
theorem dX6_needPerson_13 : decode cX6_needPerson 13 = .ok (.invokespecial 283, 3) := by decide +kernel
theorem dX6_needPerson_16 : decode cX6_needPerson 16 = .ok (.athrow, 1) := by decide +kernel
theorem dX6_needPerson_17 : decode cX6_needPerson 17 = .ok (.return_, 1) := by decide +kernel
theorem lk_X6_needPerson : LK yX6_needPerson cX6_needPerson 1 none 1 := ⟨qW_at 308 (by decide +kernel) rfl, qW_at 29 (by decide +kernel) rfl, by decide, by decide, by decide +kernel⟩
theorem st_X6_needPerson : Cond.static yX6_needPerson ∈ qW := qW_at 307 (by decide +kernel) rfl
def F_X6_needPerson (person_ : Int32) : QX Unit :=
  (xb (xb (xb (xp person_) fun v1 => xp (decide (v1 < 0))) fun v4 => if v4 then xp true else (xb (xp person_) fun v2 => xb (xp (5 : Int32)) fun v3 => xp (decide (v3 ≤ v2)))) fun v5 => if v5 then (xth 1) else
  (xp ()))
set_option maxRecDepth 100000 in
set_option maxHeartbeats 4000000 in
theorem M_X6_needPerson (person_ : Int32) : MM yX6_needPerson cX6_needPerson 1 none 6 81 1 6 encU [.int person_] (F_X6_needPerson person_) := by
  refine MM_of (env0 := [(0, .int person_)]) (by decide) (by exact Nat.le_of_ble_eq_true rfl) (by rfl) (fun k mm res X C hR hN hr hname h => ?_)
  have X : CX k cX6_needPerson RX6 := X
  have hT : TH k (fun e m' => res = (.error e, m')) := TH_of C
  have htr := C.2.2.2.1
  unfold F_X6_needPerson at h
  exact SB_go (T := fun e m' => res = (.error e, m')) (RET := fun v m' => res = (.ok v, m')) (SB_if (CE_or (CE_1 (L_iload_n (x := person_) 0 X dX6_needPerson_0 rfl rfl) (Z_lt_T X dX6_needPerson_1 (by decide))) (CE_2 wI (L_iload_n (x := person_) 0 X dX6_needPerson_4 rfl rfl) (L_iconst (v := 5) X dX6_needPerson_5 (by decide)) (C_ge_F X dX6_needPerson_6 (by decide))))
  (SB_throw fun mm a b ha hb h => g_throw (e := 1) X C (by decide) tk_X6_281_283 ti_1 ta_X6_281_283 tg_X6_281_283 (by rw [hR]; exact Nat.le_of_ble_eq_true rfl) (by rw [hR]; exact Nat.le_of_ble_eq_true rfl) ha hb dX6_needPerson_9 dX6_needPerson_12 dX6_needPerson_13 dX6_needPerson_16 h)
  (SB_retU X C hr dX6_needPerson_17)) h (by rw [hR]; decide) (by rw [hR]; decide)
theorem dX6_needTime_0 : decode cX6_needTime 0 = .ok (.iload_n 0, 1) := by decide +kernel
theorem dX6_needTime_1 : decode cX6_needTime 1 = .ok (.invokestatic 55, 3) := by decide +kernel
theorem dX6_needTime_4 : decode cX6_needTime 4 = .ok (.iload_n 1, 1) := by decide +kernel
theorem dX6_needTime_5 : decode cX6_needTime 5 = .ok (.iconst 0, 1) := by decide +kernel
theorem dX6_needTime_6 : decode cX6_needTime 6 = .ok (.bipush 23, 2) := by decide +kernel
theorem dX6_needTime_8 : decode cX6_needTime 8 = .ok (.invokestatic 47, 3) := by decide +kernel
theorem dX6_needTime_11 : decode cX6_needTime 11 = .ok (.iload_n 2, 1) := by decide +kernel
theorem dX6_needTime_12 : decode cX6_needTime 12 = .ok (.iconst 1, 1) := by decide +kernel
theorem dX6_needTime_13 : decode cX6_needTime 13 = .ok (.bipush 23, 2) := by decide +kernel
theorem dX6_needTime_15 : decode cX6_needTime 15 = .ok (.invokestatic 47, 3) := by decide +kernel
theorem dX6_needTime_18 : decode cX6_needTime 18 = .ok (.return_, 1) := by decide +kernel
theorem lk_X6_needTime : LK yX6_needTime cX6_needTime 3 none 3 := ⟨qW_at 900 (by decide +kernel) rfl, qW_at 29 (by decide +kernel) rfl, by decide, by decide, by decide +kernel⟩
theorem st_X6_needTime : Cond.static yX6_needTime ∈ qW := qW_at 899 (by decide +kernel) rfl
def F_X6_needTime (day_ : Int32) (hour_ : Int32) (length_ : Int32) : QX Unit :=
  (xb (xb (xp day_) fun v1 => F_X6_needDay v1) fun _ =>
  (xb (xb (xp hour_) fun v2 => xb (xp (0 : Int32)) fun v3 => xb (xp (23 : Int32)) fun v4 => F_X6_needRange v2 v3 v4) fun _ =>
  (xb (xb (xp length_) fun v5 => xb (xp (1 : Int32)) fun v6 => xb (xp (23 : Int32)) fun v7 => F_X6_needRange v5 v6 v7) fun _ =>
  (xp ()))))
set_option maxRecDepth 100000 in
set_option maxHeartbeats 4000000 in
theorem M_X6_needTime (day_ : Int32) (hour_ : Int32) (length_ : Int32) : MM yX6_needTime cX6_needTime 3 none 8 123 3 18 encU [.int day_, .int hour_, .int length_] (F_X6_needTime day_ hour_ length_) := by
  refine MM_of (env0 := [(0, .int day_), (1, .int hour_), (2, .int length_)]) (by decide) (by exact Nat.le_of_ble_eq_true rfl) (by rfl) (fun k mm res X C hR hN hr hname h => ?_)
  have X : CX k cX6_needTime RX6 := X
  have hT : TH k (fun e m' => res = (.error e, m')) := TH_of C
  have htr := C.2.2.2.1
  unfold F_X6_needTime at h
  exact SB_go (T := fun e m' => res = (.error e, m')) (RET := fun v m' => res = (.ok v, m')) (SB_do (XE_1 (pB := pU)  (L_iload_n (x := day_) 0 X dX6_needTime_0 rfl rfl) (fun v0 st mm a b hd hc hs h => g_callS (st := st) X hT htr (M_X6_needDay v0) lk_X6_needDay st_X6_needDay ml_X6_55 rfl (by rw [hR]; exact ⟨Nat.le_of_ble_eq_true rfl, Nat.le_of_ble_eq_true rfl⟩) (Nat.le_trans hd (by decide)) ⟨hc, hs⟩ dX6_needTime_1 h))
  (SB_do (XE_3 (pB := pU) wI wI (L_iload_n (x := hour_) 1 X dX6_needTime_4 rfl rfl) (L_iconst (v := 0) X dX6_needTime_5 (by decide)) (L_bipush (v := (23)) X dX6_needTime_6 (by decide)) (fun v0 v1 v2 st mm a b hd hc hs h => g_callS (st := st) X hT htr (M_X6_needRange v0 v1 v2) lk_X6_needRange st_X6_needRange ml_X6_47 rfl (by rw [hR]; exact ⟨Nat.le_of_ble_eq_true rfl, Nat.le_of_ble_eq_true rfl⟩) (Nat.le_trans hd (by decide)) ⟨hc, hs⟩ dX6_needTime_8 h))
  (SB_do (XE_3 (pB := pU) wI wI (L_iload_n (x := length_) 2 X dX6_needTime_11 rfl rfl) (L_iconst (v := 1) X dX6_needTime_12 (by decide)) (L_bipush (v := (23)) X dX6_needTime_13 (by decide)) (fun v0 v1 v2 st mm a b hd hc hs h => g_callS (st := st) X hT htr (M_X6_needRange v0 v1 v2) lk_X6_needRange st_X6_needRange ml_X6_47 rfl (by rw [hR]; exact ⟨Nat.le_of_ble_eq_true rfl, Nat.le_of_ble_eq_true rfl⟩) (Nat.le_trans hd (by decide)) ⟨hc, hs⟩ dX6_needTime_15 h))
  (SB_retU X C hr dX6_needTime_18)))) h (by rw [hR]; decide) (by rw [hR]; decide)
theorem dX6_needState_0 : decode cX6_needState 0 = .ok (.iload_n 0, 1) := by decide +kernel
theorem dX6_needState_1 : decode cX6_needState 1 = .ok (.ifCond .ne 11, 3) := by decide +kernel
theorem dX6_needState_4 : decode cX6_needState 4 = .ok (.new 354, 3) := by decide +kernel
theorem dX6_needState_7 : decode cX6_needState 7 = .ok (.dup, 1) := by decide +kernel
theorem dX6_needState_8 : decode cX6_needState 8 = .ok (.invokespecial 356, 3) := by decide +kernel
theorem dX6_needState_11 : decode cX6_needState 11 = .ok (.athrow, 1) := by decide +kernel
theorem dX6_needState_12 : decode cX6_needState 12 = .ok (.return_, 1) := by decide +kernel
theorem lk_X6_needState : LK yX6_needState cX6_needState 1 none 1 := ⟨qW_at 339 (by decide +kernel) rfl, qW_at 29 (by decide +kernel) rfl, by decide, by decide, by decide +kernel⟩
theorem st_X6_needState : Cond.static yX6_needState ∈ qW := qW_at 338 (by decide +kernel) rfl
def F_X6_needState (isRight_ : Int32) : QX Unit :=
  (xb (xb (xb (xp isRight_) fun v1 => xp (decide (¬ v1 = 0))) fun v2 => xp (!v2)) fun v3 => if v3 then (xth 3) else
  (xp ()))
set_option maxRecDepth 100000 in
set_option maxHeartbeats 4000000 in
theorem M_X6_needState (isRight_ : Int32) : MM yX6_needState cX6_needState 1 none 6 81 1 6 encU [.int isRight_] (F_X6_needState isRight_) := by
  refine MM_of (env0 := [(0, .int isRight_)]) (by decide) (by exact Nat.le_of_ble_eq_true rfl) (by rfl) (fun k mm res X C hR hN hr hname h => ?_)
  have X : CX k cX6_needState RX6 := X
  have hT : TH k (fun e m' => res = (.error e, m')) := TH_of C
  have htr := C.2.2.2.1
  unfold F_X6_needState at h
  exact SB_go (T := fun e m' => res = (.error e, m')) (RET := fun v m' => res = (.ok v, m')) (SB_if (CE_not (CE_1 (L_iload_n (x := isRight_) 0 X dX6_needState_0 rfl rfl) (Z_ne_T X dX6_needState_1 (by decide))))
  (SB_throw fun mm a b ha hb h => g_throw (e := 3) X C (by decide) tk_X6_354_356 ti_3 ta_X6_354_356 tg_X6_354_356 (by rw [hR]; exact Nat.le_of_ble_eq_true rfl) (by rw [hR]; exact Nat.le_of_ble_eq_true rfl) ha hb dX6_needState_4 dX6_needState_7 dX6_needState_8 dX6_needState_11 h)
  (SB_retU X C hr dX6_needState_12)) h (by rw [hR]; decide) (by rw [hR]; decide)
theorem dX6_markEntry_0 : decode cX6_markEntry 0 = .ok (.aload_n 0, 1) := by decide +kernel
theorem dX6_markEntry_1 : decode cX6_markEntry 1 = .ok (.getfield 17, 3) := by decide +kernel
theorem dX6_markEntry_4 : decode cX6_markEntry 4 = .ok (.iload_n 1, 1) := by decide +kernel
theorem dX6_markEntry_5 : decode cX6_markEntry 5 = .ok (.aaload, 1) := by decide +kernel
theorem dX6_markEntry_6 : decode cX6_markEntry 6 = .ok (.astore_n 3, 1) := by decide +kernel
theorem dX6_markEntry_7 : decode cX6_markEntry 7 = .ok (.aload_n 3, 1) := by decide +kernel
theorem dX6_markEntry_8 : decode cX6_markEntry 8 = .ok (.dup, 1) := by decide +kernel
theorem dX6_markEntry_9 : decode cX6_markEntry 9 = .ok (.getfield 335, 3) := by decide +kernel
theorem dX6_markEntry_12 : decode cX6_markEntry 12 = .ok (.iconst 1, 1) := by decide +kernel
theorem dX6_markEntry_13 : decode cX6_markEntry 13 = .ok (.iadd, 1) := by decide +kernel
theorem dX6_markEntry_14 : decode cX6_markEntry 14 = .ok (.putfield 335, 3) := by decide +kernel
theorem dX6_markEntry_17 : decode cX6_markEntry 17 = .ok (.aload_n 3, 1) := by decide +kernel
theorem dX6_markEntry_18 : decode cX6_markEntry 18 = .ok (.getfield 345, 3) := by decide +kernel
theorem dX6_markEntry_21 : decode cX6_markEntry 21 = .ok (.aload_n 2, 1) := by decide +kernel
theorem dX6_markEntry_22 : decode cX6_markEntry 22 = .ok (.getfield 93, 3) := by decide +kernel
theorem dX6_markEntry_25 : decode cX6_markEntry 25 = .ok (.aload_n 3, 1) := by decide +kernel
theorem dX6_markEntry_26 : decode cX6_markEntry 26 = .ok (.getfield 335, 3) := by decide +kernel
theorem dX6_markEntry_29 : decode cX6_markEntry 29 = .ok (.iastore, 1) := by decide +kernel
theorem dX6_markEntry_30 : decode cX6_markEntry 30 = .ok (.iconst 0, 1) := by decide +kernel
theorem dX6_markEntry_31 : decode cX6_markEntry 31 = .ok (.istore 4, 2) := by decide +kernel
theorem dX6_markEntry_33 : decode cX6_markEntry 33 = .ok (.iconst (-1), 1) := by decide +kernel
theorem dX6_markEntry_34 : decode cX6_markEntry 34 = .ok (.istore 5, 2) := by decide +kernel
theorem dX6_markEntry_36 : decode cX6_markEntry 36 = .ok (.iconst 0, 1) := by decide +kernel
theorem dX6_markEntry_37 : decode cX6_markEntry 37 = .ok (.istore 6, 2) := by decide +kernel
theorem dX6_markEntry_39 : decode cX6_markEntry 39 = .ok (.iload 6, 2) := by decide +kernel
theorem dX6_markEntry_41 : decode cX6_markEntry 41 = .ok (.aload_n 0, 1) := by decide +kernel
theorem dX6_markEntry_42 : decode cX6_markEntry 42 = .ok (.getfield 78, 3) := by decide +kernel
theorem dX6_markEntry_45 : decode cX6_markEntry 45 = .ok (.if_icmp .ge 67, 3) := by decide +kernel
theorem dX6_markEntry_48 : decode cX6_markEntry 48 = .ok (.aload_n 3, 1) := by decide +kernel
theorem dX6_markEntry_49 : decode cX6_markEntry 49 = .ok (.getfield 345, 3) := by decide +kernel
theorem dX6_markEntry_52 : decode cX6_markEntry 52 = .ok (.iload 6, 2) := by decide +kernel
theorem dX6_markEntry_54 : decode cX6_markEntry 54 = .ok (.iaload, 1) := by decide +kernel
theorem dX6_markEntry_55 : decode cX6_markEntry 55 = .ok (.istore 7, 2) := by decide +kernel
theorem dX6_markEntry_57 : decode cX6_markEntry 57 = .ok (.iload 7, 2) := by decide +kernel
theorem dX6_markEntry_59 : decode cX6_markEntry 59 = .ok (.ifCond .le 47, 3) := by decide +kernel
theorem dX6_markEntry_62 : decode cX6_markEntry 62 = .ok (.aload_n 0, 1) := by decide +kernel
theorem dX6_markEntry_63 : decode cX6_markEntry 63 = .ok (.getfield 23, 3) := by decide +kernel
theorem dX6_markEntry_66 : decode cX6_markEntry 66 = .ok (.iload 6, 2) := by decide +kernel
theorem dX6_markEntry_68 : decode cX6_markEntry 68 = .ok (.aaload, 1) := by decide +kernel
theorem dX6_markEntry_69 : decode cX6_markEntry 69 = .ok (.iload_n 1, 1) := by decide +kernel
theorem dX6_markEntry_70 : decode cX6_markEntry 70 = .ok (.invokevirtual 269, 3) := by decide +kernel
theorem dX6_markEntry_73 : decode cX6_markEntry 73 = .ok (.ifnonnull 33, 3) := by decide +kernel
theorem dX6_markEntry_76 : decode cX6_markEntry 76 = .ok (.iinc 4 1, 3) := by decide +kernel
theorem dX6_markEntry_79 : decode cX6_markEntry 79 = .ok (.iload 5, 2) := by decide +kernel
theorem dX6_markEntry_81 : decode cX6_markEntry 81 = .ok (.iconst (-1), 1) := by decide +kernel
theorem dX6_markEntry_82 : decode cX6_markEntry 82 = .ok (.if_icmp .eq 15, 3) := by decide +kernel
theorem dX6_markEntry_85 : decode cX6_markEntry 85 = .ok (.iload 7, 2) := by decide +kernel
theorem dX6_markEntry_87 : decode cX6_markEntry 87 = .ok (.aload_n 3, 1) := by decide +kernel
theorem dX6_markEntry_88 : decode cX6_markEntry 88 = .ok (.getfield 345, 3) := by decide +kernel
theorem dX6_markEntry_91 : decode cX6_markEntry 91 = .ok (.iload 5, 2) := by decide +kernel
theorem dX6_markEntry_93 : decode cX6_markEntry 93 = .ok (.iaload, 1) := by decide +kernel
theorem dX6_markEntry_94 : decode cX6_markEntry 94 = .ok (.if_icmp .ge 8, 3) := by decide +kernel
theorem dX6_markEntry_97 : decode cX6_markEntry 97 = .ok (.iload 6, 2) := by decide +kernel
theorem dX6_markEntry_99 : decode cX6_markEntry 99 = .ok (.goto 5, 3) := by decide +kernel
theorem dX6_markEntry_102 : decode cX6_markEntry 102 = .ok (.iload 5, 2) := by decide +kernel
theorem dX6_markEntry_104 : decode cX6_markEntry 104 = .ok (.istore 5, 2) := by decide +kernel
theorem dX6_markEntry_106 : decode cX6_markEntry 106 = .ok (.iinc 6 1, 3) := by decide +kernel
theorem dX6_markEntry_109 : decode cX6_markEntry 109 = .ok (.goto (-70), 3) := by decide +kernel
theorem dX6_markEntry_112 : decode cX6_markEntry 112 = .ok (.iload 4, 2) := by decide +kernel
theorem dX6_markEntry_114 : decode cX6_markEntry 114 = .ok (.iconst 3, 1) := by decide +kernel
theorem dX6_markEntry_115 : decode cX6_markEntry 115 = .ok (.if_icmp .le 9, 3) := by decide +kernel
theorem dX6_markEntry_118 : decode cX6_markEntry 118 = .ok (.aload_n 3, 1) := by decide +kernel
theorem dX6_markEntry_119 : decode cX6_markEntry 119 = .ok (.iload 5, 2) := by decide +kernel
theorem dX6_markEntry_121 : decode cX6_markEntry 121 = .ok (.invokevirtual 360, 3) := by decide +kernel
theorem dX6_markEntry_124 : decode cX6_markEntry 124 = .ok (.return_, 1) := by decide +kernel
theorem lk_X6_markEntry : LK yX6_markEntry cX6_markEntry 8 none 2 := ⟨qW_at 630 (by decide +kernel) rfl, qW_at 29 (by decide +kernel) rfl, by decide, by decide, by decide +kernel⟩
theorem im_X6_markEntry : Cond.instanceMethod yX6_markEntry ∈ qW := qW_at 629 (by decide +kernel) rfl
theorem se_X6_markEntry : Cond.selects RX6 yX6_markEntry yX6_markEntry ∈ qW := qW_at 17 (by decide +kernel) rfl
def F_X6_markEntry (this : Nat) (person_ : Int32) (meeting_ : Option Nat) : QX Unit :=
  (xb (xb (xb (xp (some this)) fun v1 => xgr 7 1 v1) fun v2 => xb (xp person_) fun v3 => xar 3 v2 v3) fun marked_4 =>
  (xb (xb (xp marked_4) fun v5 => xb (xgi 3 0 v5) fun v6 => xb (xp (1 : Int32)) fun v7 => xb (xp (v6 + v7)) fun v8 => xsi 3 0 v5 v8) fun _ =>
  (xb (xb (xb (xp marked_4) fun v9 => xgr 3 2 v9) fun v12 => xb (xb (xp meeting_) fun v10 => xgi 1 0 v10) fun v13 => xb (xb (xp marked_4) fun v11 => xgi 3 0 v11) fun v14 => xsai v12 v13 v14) fun _ =>
  (xb (xp (0 : Int32)) fun gone_15 =>
  (xb (xp (-1 : Int32)) fun oldest_16 =>
  (xb (xp (0 : Int32)) fun number_17 =>
  (xb (xl 2000 (fun (s18 : Int32 × Int32 × Int32) => (xb (xp s18.2.2) fun v19 => xb (xb (xp (some this)) fun v20 => xgi 7 4 v20) fun v21 => xp (decide (v19 < v21)))) (fun (s18 : Int32 × Int32 × Int32) =>
  (xb (xb (xb (xp marked_4) fun v22 => xgr 3 2 v22) fun v23 => xb (xp s18.2.2) fun v24 => xai 0 v23 v24) fun entry_25 =>
  (xb (xb (xb (xb (xp entry_25) fun v26 => xp (decide (0 < v26))) fun v33 => if v33 then (xb (xb (xb (xb (xp (some this)) fun v27 => xgr 7 2 v27) fun v28 => xb (xp s18.2.2) fun v29 => xar 1 v28 v29) fun v30 => xb (xp person_) fun v31 => xo 1 v30 fun q => F_X0_versionThere q v31) fun v32 => xp (decide (v32 = none))) else xp false) fun v44 => if v44 then (xb (xb (xb (xb (xp s18.2.1) fun v34 => xb (xp (-1 : Int32)) fun v35 => xp (decide (v34 = v35))) fun v41 => if v41 then xp true else (xb (xp entry_25) fun v36 => xb (xb (xb (xp marked_4) fun v37 => xgr 3 2 v37) fun v38 => xb (xp s18.2.1) fun v39 => xai 0 v38 v39) fun v40 => xp (decide (v36 < v40)))) fun v42 => if v42 then (xp s18.2.2) else (xp s18.2.1)) fun oldest_43 =>
  (xp ((s18.1 + 1), oldest_43))) else (xp (s18.1, s18.2.1))) fun s45 =>
  (xp (s45.1, s45.2, (s18.2.2 + 1)))))) (gone_15, oldest_16, number_17)) fun s46 =>
  (xb (xb (xb (xp s46.1) fun v47 => xb (xp (3 : Int32)) fun v48 => xp (decide (v48 < v47))) fun v51 => if v51 then (xb (xb (xp marked_4) fun v49 => xb (xp s46.2.1) fun v50 => xo 3 v49 fun q => F_X2_forget q v50) fun _ =>
  (xp ())) else (xp ())) fun s52 =>
  (xp ())))))))))
set_option maxRecDepth 100000 in
set_option maxHeartbeats 4000000 in
theorem M_X6_markEntry (this : Nat) (person_ : Int32) (meeting_ : Option Nat) : MM yX6_markEntry cX6_markEntry 8 none 2 43 0 0 encU [.ref this, .int person_, va_rf meeting_] (F_X6_markEntry this person_ meeting_) := by
  refine MM_of (env0 := [(0, va_rf (some this)), (1, .int person_), (2, va_rf meeting_)]) (by decide) (by cases meeting_ <;> exact Nat.le_of_ble_eq_true rfl) (by cases meeting_ <;> rfl) (fun k mm res X C hR hN hr hname h => ?_)
  have X : CX k cX6_markEntry RX6 := X
  have hT : TH k (fun e m' => res = (.error e, m')) := TH_of C
  have htr := C.2.2.2.1
  unfold F_X6_markEntry at h
  exact SB_go (T := fun e m' => res = (.error e, m')) (RET := fun v m' => res = (.ok v, m')) (SB_let (XE_2 wR (XE_1 (L_aload_n (r := (some this)) 0 X dX6_markEntry_0 rfl rfl) (O_gr (c := 7) (j := 1) X rfl inW6 (by decide) fl_X6_17 rfl dX6_markEntry_1)) (L_iload_n (x := person_) 1 X dX6_markEntry_4 rfl rfl) (O_ar (c := 3) X (by decide) rfl dX6_markEntry_5)) (S_astore_n (ev := fun marked_4 => [(3, va_rf marked_4), (0, va_rf (some this)), (1, .int person_), (2, va_rf meeting_)]) X dX6_markEntry_6 rfl (by rw [hN]; decide) (fun _ => (by cases meeting_ <;> rfl))) fun marked_4 =>
  (SB_do (XE_dup wI (L_aload_n (r := marked_4) 0 X dX6_markEntry_7 rfl rfl) (S_dup X dX6_markEntry_8) (O_gi (c := 3) (j := 0) X rfl inW2 (by decide) fl_X6_335 rfl dX6_markEntry_9) (L_iconst (v := 1) X dX6_markEntry_12 (by decide)) (O_iadd X dX6_markEntry_13) (O_si (c := 3) (j := 0) tyX2 X rfl inW2 tyX2_ok nmX2 (by decide) fl_X6_335 (Or.inl rfl) rfl (by decide +kernel) dX6_markEntry_14))
  (SB_do (XE_3 wR wI (XE_1 (L_aload_n (r := marked_4) 0 X dX6_markEntry_17 rfl rfl) (O_gr (c := 3) (j := 2) X rfl inW2 (by decide) fl_X6_345 rfl dX6_markEntry_18)) (XE_1 (L_aload_n (r := meeting_) 3 X dX6_markEntry_21 rfl rfl) (O_gi (c := 1) (j := 0) X rfl inW0 (by decide) fl_X6_93 rfl dX6_markEntry_22)) (XE_1 (L_aload_n (r := marked_4) 0 X dX6_markEntry_25 rfl rfl) (O_gi (c := 3) (j := 0) X rfl inW2 (by decide) fl_X6_335 rfl dX6_markEntry_26)) (O_sai X dX6_markEntry_29))
  (SB_let (L_iconst (v := 0) X dX6_markEntry_30 (by decide)) (S_istore (ev := fun gone_15 => [(4, .int gone_15), (3, va_rf marked_4), (0, va_rf (some this)), (1, .int person_), (2, va_rf meeting_)]) X dX6_markEntry_31 (by rw [hN]; decide) (fun _ => (by cases marked_4 <;> rfl))) fun gone_15 =>
  (SB_let (L_iconst (v := (-1)) X dX6_markEntry_33 (by decide)) (S_istore (ev := fun oldest_16 => [(5, .int oldest_16), (4, .int gone_15), (3, va_rf marked_4), (0, va_rf (some this)), (1, .int person_), (2, va_rf meeting_)]) X dX6_markEntry_34 (by rw [hN]; decide) (fun _ => rfl)) fun oldest_16 =>
  (SB_let (L_iconst (v := 0) X dX6_markEntry_36 (by decide)) (S_istore (ev := fun number_17 => [(6, .int number_17), (5, .int oldest_16), (4, .int gone_15), (3, va_rf marked_4), (0, va_rf (some this)), (1, .int person_), (2, va_rf meeting_)]) X dX6_markEntry_37 (by rw [hN]; decide) (fun _ => rfl)) fun number_17 =>
  (SB_seq (ST_loop (σ := Int32 × Int32 × Int32) (upd := (fun (s : Int32 × Int32 × Int32) => [(6, .int s.2.2), (5, .int s.2.1), (4, .int s.1), (3, va_rf marked_4), (0, va_rf (some this)), (1, .int person_), (2, va_rf meeting_)])) (s0 := (gone_15, oldest_16, number_17)) (n := 2000) (fun mm a b h => GG_sub [0, 1, 2, 3, 4, 5, 6] rfl h)
  (fun s18 => (CE_2 wI (L_iload (x := s18.2.2) 0 X dX6_markEntry_39 rfl) (XE_1 (L_aload_n (r := (some this)) 4 X dX6_markEntry_41 rfl rfl) (O_gi (c := 7) (j := 4) X rfl inW6 (by decide) fl_X6_78 rfl dX6_markEntry_42)) (C_lt_F X dX6_markEntry_45 (by decide))))
  (fun s18 => (ST_post (ST_let (XE_2 wR (XE_1 (L_aload_n (r := marked_4) 3 X dX6_markEntry_48 rfl rfl) (O_gr (c := 3) (j := 2) X rfl inW2 (by decide) fl_X6_345 rfl dX6_markEntry_49)) (L_iload (x := s18.2.2) 0 X dX6_markEntry_52 rfl) (O_ai X dX6_markEntry_54)) (S_istore (ev := fun entry_25 => [(7, .int entry_25), (6, .int s18.2.2), (5, .int s18.2.1), (4, .int s18.1), (3, va_rf marked_4), (0, va_rf (some this)), (1, .int person_), (2, va_rf meeting_)]) X dX6_markEntry_55 (by rw [hN]; decide) (fun _ => rfl)) fun entry_25 =>
  (ST_seq (ST_if (CE_and (CE_1 (L_iload (x := entry_25) 0 X dX6_markEntry_57 rfl) (Z_gt_F X dX6_markEntry_59 (by decide))) (CE_1 (XE_2 (pB := pR) wR (XE_2 wR (XE_1 (L_aload_n (r := (some this)) 5 X dX6_markEntry_62 rfl rfl) (O_gr (c := 7) (j := 2) X rfl inW6 (by decide) fl_X6_23 rfl dX6_markEntry_63)) (L_iload (x := s18.2.2) 1 X dX6_markEntry_66 rfl) (O_ar (c := 1) X (by decide) rfl dX6_markEntry_68)) (L_iload_n (x := person_) 6 X dX6_markEntry_69 rfl rfl) (fun v0 v1 st mm a b hd hc hs h => g_callVo (st := st) (cI := 1) X hT htr rfl (fun q => M_X0_versionThere q v1) lk_X0_versionThere im_X0_versionThere se_X0_versionThere ml_X6_269 rfl (by rw [hR]; exact ⟨Nat.le_of_ble_eq_true rfl, Nat.le_of_ble_eq_true rfl⟩) (Nat.le_trans hd (by decide)) ⟨hc, hs⟩ dX6_markEntry_70 h)) (N_eq_F X dX6_markEntry_73 (by decide))))
  (ST_pre (env' := [(4, .int (s18.1 + 1)), (7, .int entry_25), (6, .int s18.2.2), (5, .int s18.2.1), (3, va_rf marked_4), (0, va_rf (some this)), (1, .int person_), (2, va_rf meeting_)]) (S_iinc 3 X dX6_markEntry_76 rfl rfl (by rw [hN]; decide) (by cases marked_4 <;> rfl))
  (ST_let (XE_tern (CE_or (CE_2 wI (L_iload (x := s18.2.1) 3 X dX6_markEntry_79 rfl) (L_iconst (v := (-1)) X dX6_markEntry_81 (by decide)) (C_eq_T X dX6_markEntry_82 (by decide))) (CE_2 wI (L_iload (x := entry_25) 1 X dX6_markEntry_85 rfl) (XE_2 wR (XE_1 (L_aload_n (r := marked_4) 4 X dX6_markEntry_87 rfl rfl) (O_gr (c := 3) (j := 2) X rfl inW2 (by decide) fl_X6_345 rfl dX6_markEntry_88)) (L_iload (x := s18.2.1) 3 X dX6_markEntry_91 rfl) (O_ai X dX6_markEntry_93)) (C_lt_F X dX6_markEntry_94 (by decide)))) (L_iload (x := s18.2.2) 2 X dX6_markEntry_97 rfl) (S_goto X dX6_markEntry_99 (by decide)) (L_iload (x := s18.2.1) 3 X dX6_markEntry_102 rfl)) (S_istore (ev := fun oldest_43 => [(5, .int oldest_43), (4, .int (s18.1 + 1)), (7, .int entry_25), (6, .int s18.2.2), (3, va_rf marked_4), (0, va_rf (some this)), (1, .int person_), (2, va_rf meeting_)]) X dX6_markEntry_104 (by rw [hN]; decide) (fun _ => rfl)) fun oldest_43 =>
  (ST_done (upd := (fun (s : Int32 × Int32) => [(7, .int entry_25), (6, .int s18.2.2), (5, .int s.2), (4, .int s.1), (3, va_rf marked_4), (0, va_rf (some this)), (1, .int person_), (2, va_rf meeting_)])) (s := ((s18.1 + 1), oldest_43)) [2, 3, 0, 1, 4, 5, 6, 7] rfl)))
  (ST_done (upd := (fun (s : Int32 × Int32) => [(7, .int entry_25), (6, .int s18.2.2), (5, .int s.2), (4, .int s.1), (3, va_rf marked_4), (0, va_rf (some this)), (1, .int person_), (2, va_rf meeting_)])) (s := (s18.1, s18.2.1)) [0, 1, 2, 3, 4, 5, 6, 7] rfl)) fun s45 =>
  (ST_pre (env' := [(6, .int (s18.2.2 + 1)), (7, .int entry_25), (5, .int s45.2), (4, .int s45.1), (3, va_rf marked_4), (0, va_rf (some this)), (1, .int person_), (2, va_rf meeting_)]) (S_iinc 1 X dX6_markEntry_106 rfl rfl (by rw [hN]; decide) rfl)
  (ST_done (upd := (fun (s : Int32 × Int32 × Int32) => [(6, .int s.2.2), (5, .int s.2.1), (4, .int s.1), (3, va_rf marked_4), (0, va_rf (some this)), (1, .int person_), (2, va_rf meeting_)])) (s := (s45.1, s45.2, (s18.2.2 + 1))) [0, 2, 3, 4, 5, 6, 7] rfl)))) fun _ mm a b h => S_goto X dX6_markEntry_109 (by decide) [] mm a b h))) fun s46 =>
  (SB_seq (ST_if (CE_2 wI (L_iload (x := s46.1) 2 X dX6_markEntry_112 rfl) (L_iconst (v := 3) X dX6_markEntry_114 (by decide)) (C_gt_F X dX6_markEntry_115 (by decide)))
  (ST_do (XE_2 (pB := pU) wR (L_aload_n (r := marked_4) 3 X dX6_markEntry_118 rfl rfl) (L_iload (x := s46.2.1) 1 X dX6_markEntry_119 rfl) (fun v0 v1 st mm a b hd hc hs h => g_callVo (st := st) (cI := 3) X hT htr rfl (fun q => M_X2_forget q v1) lk_X2_forget im_X2_forget se_X2_forget ml_X6_360 rfl (by rw [hR]; exact ⟨Nat.le_of_ble_eq_true rfl, Nat.le_of_ble_eq_true rfl⟩) (Nat.le_trans hd (by decide)) ⟨hc, hs⟩ dX6_markEntry_121 h))
  (ST_done (upd := (fun (s : Unit) => [(6, .int s46.2.2), (5, .int s46.2.1), (4, .int s46.1), (3, va_rf marked_4), (0, va_rf (some this)), (1, .int person_), (2, va_rf meeting_)])) (s := ()) [0, 1, 2, 3, 4, 5, 6] rfl))
  (ST_done (upd := (fun (s : Unit) => [(6, .int s46.2.2), (5, .int s46.2.1), (4, .int s46.1), (3, va_rf marked_4), (0, va_rf (some this)), (1, .int person_), (2, va_rf meeting_)])) (s := ()) [0, 1, 2, 3, 4, 5, 6] rfl)) fun s52 =>
  (SB_retU X C hr dX6_markEntry_124))))))))) h (by rw [hR]; decide) (by rw [hR]; decide)
theorem dX6_make_0 : decode cX6_make 0 = .ok (.iload_n 1, 1) := by decide +kernel
theorem dX6_make_1 : decode cX6_make 1 = .ok (.invokestatic 72, 3) := by decide +kernel
theorem dX6_make_4 : decode cX6_make 4 = .ok (.aload_n 0, 1) := by decide +kernel
theorem dX6_make_5 : decode cX6_make 5 = .ok (.iload_n 2, 1) := by decide +kernel
theorem dX6_make_6 : decode cX6_make 6 = .ok (.invokevirtual 43, 3) := by decide +kernel
theorem dX6_make_9 : decode cX6_make 9 = .ok (.astore 6, 2) := by decide +kernel
theorem dX6_make_11 : decode cX6_make 11 = .ok (.iload_n 3, 1) := by decide +kernel
theorem dX6_make_12 : decode cX6_make 12 = .ok (.iload 4, 2) := by decide +kernel
theorem dX6_make_14 : decode cX6_make 14 = .ok (.iload 5, 2) := by decide +kernel
theorem dX6_make_16 : decode cX6_make 16 = .ok (.invokestatic 75, 3) := by decide +kernel
theorem dX6_make_19 : decode cX6_make 19 = .ok (.aload_n 0, 1) := by decide +kernel
theorem dX6_make_20 : decode cX6_make 20 = .ok (.getfield 78, 3) := by decide +kernel
theorem dX6_make_23 : decode cX6_make 23 = .ok (.bipush 8, 2) := by decide +kernel
theorem dX6_make_25 : decode cX6_make 25 = .ok (.if_icmp .ge 7, 3) := by decide +kernel
theorem dX6_make_28 : decode cX6_make 28 = .ok (.iconst 1, 1) := by decide +kernel
theorem dX6_make_29 : decode cX6_make 29 = .ok (.goto 4, 3) := by decide +kernel
theorem dX6_make_32 : decode cX6_make 32 = .ok (.iconst 0, 1) := by decide +kernel
theorem dX6_make_33 : decode cX6_make 33 = .ok (.invokestatic 81, 3) := by decide +kernel
theorem dX6_make_36 : decode cX6_make 36 = .ok (.new 21, 3) := by decide +kernel
theorem dX6_make_39 : decode cX6_make 39 = .ok (.dup, 1) := by decide +kernel
theorem dX6_make_40 : decode cX6_make 40 = .ok (.aload_n 0, 1) := by decide +kernel
theorem dX6_make_41 : decode cX6_make 41 = .ok (.getfield 78, 3) := by decide +kernel
theorem dX6_make_44 : decode cX6_make 44 = .ok (.iload_n 1, 1) := by decide +kernel
theorem dX6_make_45 : decode cX6_make 45 = .ok (.new 85, 3) := by decide +kernel
theorem dX6_make_48 : decode cX6_make 48 = .ok (.dup, 1) := by decide +kernel
theorem dX6_make_49 : decode cX6_make 49 = .ok (.aload 6, 2) := by decide +kernel
theorem dX6_make_51 : decode cX6_make 51 = .ok (.iload_n 3, 1) := by decide +kernel
theorem dX6_make_52 : decode cX6_make 52 = .ok (.iload 4, 2) := by decide +kernel
theorem dX6_make_54 : decode cX6_make 54 = .ok (.iload 5, 2) := by decide +kernel
theorem dX6_make_56 : decode cX6_make 56 = .ok (.invokespecial 87, 3) := by decide +kernel
theorem dX6_make_59 : decode cX6_make 59 = .ok (.invokespecial 90, 3) := by decide +kernel
theorem dX6_make_62 : decode cX6_make 62 = .ok (.astore 7, 2) := by decide +kernel
theorem dX6_make_64 : decode cX6_make 64 = .ok (.aload_n 0, 1) := by decide +kernel
theorem dX6_make_65 : decode cX6_make 65 = .ok (.getfield 23, 3) := by decide +kernel
theorem dX6_make_68 : decode cX6_make 68 = .ok (.aload 7, 2) := by decide +kernel
theorem dX6_make_70 : decode cX6_make 70 = .ok (.getfield 93, 3) := by decide +kernel
theorem dX6_make_73 : decode cX6_make 73 = .ok (.aload 7, 2) := by decide +kernel
theorem dX6_make_75 : decode cX6_make 75 = .ok (.aastore, 1) := by decide +kernel
theorem dX6_make_76 : decode cX6_make 76 = .ok (.aload_n 0, 1) := by decide +kernel
theorem dX6_make_77 : decode cX6_make 77 = .ok (.dup, 1) := by decide +kernel
theorem dX6_make_78 : decode cX6_make 78 = .ok (.getfield 78, 3) := by decide +kernel
theorem dX6_make_81 : decode cX6_make 81 = .ok (.iconst 1, 1) := by decide +kernel
theorem dX6_make_82 : decode cX6_make 82 = .ok (.iadd, 1) := by decide +kernel
theorem dX6_make_83 : decode cX6_make 83 = .ok (.putfield 78, 3) := by decide +kernel
theorem dX6_make_86 : decode cX6_make 86 = .ok (.aload_n 0, 1) := by decide +kernel
theorem dX6_make_87 : decode cX6_make 87 = .ok (.iload_n 1, 1) := by decide +kernel
theorem dX6_make_88 : decode cX6_make 88 = .ok (.aload 7, 2) := by decide +kernel
theorem dX6_make_90 : decode cX6_make 90 = .ok (.invokevirtual 96, 3) := by decide +kernel
theorem dX6_make_93 : decode cX6_make 93 = .ok (.aload 7, 2) := by decide +kernel
theorem dX6_make_95 : decode cX6_make 95 = .ok (.getfield 93, 3) := by decide +kernel
theorem dX6_make_98 : decode cX6_make 98 = .ok (.ireturn, 1) := by decide +kernel
theorem lk_X6_make : LK yX6_make cX6_make 8 (some .int) 5 := ⟨qW_at 897 (by decide +kernel) rfl, qW_at 29 (by decide +kernel) rfl, by decide, by decide, by decide +kernel⟩
theorem im_X6_make : Cond.instanceMethod yX6_make ∈ qW := qW_at 895 (by decide +kernel) rfl
theorem se_X6_make : Cond.selects RX6 yX6_make yX6_make ∈ qW := qW_at 896 (by decide +kernel) rfl
def F_X6_make (this : Nat) (person_ : Int32) (zone_ : Int32) (day_ : Int32) (hour_ : Int32) (length_ : Int32) : QX Int32 :=
  (xb (xb (xp person_) fun v1 => F_X6_needPerson v1) fun _ =>
  (xb (xb (xp (some this)) fun v2 => xb (xp zone_) fun v3 => xo 7 v2 fun q => F_X6_zoneNumbered q v3) fun clock_4 =>
  (xb (xb (xp day_) fun v5 => xb (xp hour_) fun v6 => xb (xp length_) fun v7 => F_X6_needTime v5 v6 v7) fun _ =>
  (xb (xb (xb (xb (xb (xp (some this)) fun v8 => xgi 7 4 v8) fun v9 => xb (xp (8 : Int32)) fun v10 => xp (decide (v9 < v10))) fun v11 => xp (b2i v11)) fun v12 => F_X6_needState v12) fun _ =>
  (xb (xb (xnew 1) fun r20 => xb (xb (xb (xp (some this)) fun v13 => xgi 7 4 v13) fun v21 => xb (xp person_) fun v22 => xb (xb (xnew 5) fun r14 => xb (xb (xp clock_4) fun v15 => xb (xp day_) fun v16 => xb (xp hour_) fun v17 => xb (xp length_) fun v18 => xo 5 r14 fun q => F_X4_init q v15 v16 v17 v18) fun _ => xp r14) fun v23 => xo 1 r20 fun q => F_X0_init q v21 v22 v23) fun _ => xp r20) fun made_25 =>
  (xb (xb (xb (xp (some this)) fun v26 => xgr 7 2 v26) fun v28 => xb (xb (xp made_25) fun v27 => xgi 1 0 v27) fun v29 => xb (xp made_25) fun v30 => xsar 1 v28 v29 v30) fun _ =>
  (xb (xb (xp (some this)) fun v31 => xb (xgi 7 4 v31) fun v32 => xb (xp (1 : Int32)) fun v33 => xb (xp (v32 + v33)) fun v34 => xsi 7 4 v31 v34) fun _ =>
  (xb (xb (xp (some this)) fun v35 => xb (xp person_) fun v36 => xb (xp made_25) fun v37 => xo 7 v35 fun q => F_X6_markEntry q v36 v37) fun _ =>
  (xb (xp made_25) fun v38 => xgi 1 0 v38)))))))))
set_option maxRecDepth 100000 in
set_option maxHeartbeats 4000000 in
theorem M_X6_make (this : Nat) (person_ : Int32) (zone_ : Int32) (day_ : Int32) (hour_ : Int32) (length_ : Int32) : MM yX6_make cX6_make 8 (some .int) 9 145 16 861 encI [.ref this, .int person_, .int zone_, .int day_, .int hour_, .int length_] (F_X6_make this person_ zone_ day_ hour_ length_) := by
  refine MM_of (env0 := [(0, va_rf (some this)), (1, .int person_), (2, .int zone_), (3, .int day_), (4, .int hour_), (5, .int length_)]) (by decide) (by exact Nat.le_of_ble_eq_true rfl) (by rfl) (fun k mm res X C hR hN hr hname h => ?_)
  have X : CX k cX6_make RX6 := X
  have hT : TH k (fun e m' => res = (.error e, m')) := TH_of C
  have htr := C.2.2.2.1
  unfold F_X6_make at h
  exact SB_go (T := fun e m' => res = (.error e, m')) (RET := fun v m' => res = (.ok v, m')) (SB_do (XE_1 (pB := pU)  (L_iload_n (x := person_) 1 X dX6_make_0 rfl rfl) (fun v0 st mm a b hd hc hs h => g_callS (st := st) X hT htr (M_X6_needPerson v0) lk_X6_needPerson st_X6_needPerson ml_X6_72 rfl (by rw [hR]; exact ⟨Nat.le_of_ble_eq_true rfl, Nat.le_of_ble_eq_true rfl⟩) (Nat.le_trans hd (by decide)) ⟨hc, hs⟩ dX6_make_1 h))
  (SB_let (XE_2 (pB := pR) wR (L_aload_n (r := (some this)) 0 X dX6_make_4 rfl rfl) (L_iload_n (x := zone_) 2 X dX6_make_5 rfl rfl) (fun v0 v1 st mm a b hd hc hs h => g_callVo (st := st) (cI := 7) X hT htr rfl (fun q => M_X6_zoneNumbered q v1) lk_X6_zoneNumbered im_X6_zoneNumbered se_X6_zoneNumbered ml_X6_43 rfl (by rw [hR]; exact ⟨Nat.le_of_ble_eq_true rfl, Nat.le_of_ble_eq_true rfl⟩) (Nat.le_trans hd (by decide)) ⟨hc, hs⟩ dX6_make_6 h)) (S_astore (ev := fun clock_4 => [(6, va_rf clock_4), (0, va_rf (some this)), (1, .int person_), (2, .int zone_), (3, .int day_), (4, .int hour_), (5, .int length_)]) X dX6_make_9 (by rw [hN]; decide) (fun _ => rfl)) fun clock_4 =>
  (SB_do (XE_3 (pB := pU) wI wI (L_iload_n (x := day_) 4 X dX6_make_11 rfl rfl) (L_iload (x := hour_) 5 X dX6_make_12 rfl) (L_iload (x := length_) 6 X dX6_make_14 rfl) (fun v0 v1 v2 st mm a b hd hc hs h => g_callS (st := st) X hT htr (M_X6_needTime v0 v1 v2) lk_X6_needTime st_X6_needTime ml_X6_75 rfl (by rw [hR]; exact ⟨Nat.le_of_ble_eq_true rfl, Nat.le_of_ble_eq_true rfl⟩) (Nat.le_trans hd (by decide)) ⟨hc, hs⟩ dX6_make_16 h))
  (SB_do (XE_1 (pB := pU)  (XE_b2i (CE_2 wI (XE_1 (L_aload_n (r := (some this)) 1 X dX6_make_19 rfl rfl) (O_gi (c := 7) (j := 4) X rfl inW6 (by decide) fl_X6_78 rfl dX6_make_20)) (L_bipush (v := (8)) X dX6_make_23 (by decide)) (C_lt_F X dX6_make_25 (by decide))) (S_b1 X dX6_make_28 dX6_make_29 (by decide)) (S_b0 X dX6_make_32)) (fun v0 st mm a b hd hc hs h => g_callS (st := st) X hT htr (M_X6_needState v0) lk_X6_needState st_X6_needState ml_X6_81 rfl (by rw [hR]; exact ⟨Nat.le_of_ble_eq_true rfl, Nat.le_of_ble_eq_true rfl⟩) (Nat.le_trans hd (by decide)) ⟨hc, hs⟩ dX6_make_33 h))
  (SB_let (XE_new (c := 1) (ks0 := 7) (kc0 := 10) (fun st mm a b hc hs h => g_new (c := 1) tyX0 X rfl inW0 tyX0_ok cl_X6_21 in_0 ii_0 (by decide +kernel) hc hs dX6_make_36 h) (S_dup X dX6_make_39) (OP_args3 wI wI (XE_1 (L_aload_n (r := (some this)) 1 X dX6_make_40 rfl rfl) (O_gi (c := 7) (j := 4) X rfl inW6 (by decide) fl_X6_78 rfl dX6_make_41)) (L_iload_n (x := person_) 2 X dX6_make_44 rfl rfl) (XE_new (c := 5) (ks0 := 17) (kc0 := 4) (fun st mm a b hc hs h => g_new (c := 5) tyX4 X rfl inW4 tyX4_ok cl_X6_85 in_4 ii_4 (by decide +kernel) hc hs dX6_make_45 h) (S_dup X dX6_make_48) (OP_args4 wR wI wI (L_aload (r := clock_4) 0 X dX6_make_49 rfl) (L_iload_n (x := day_) 4 X dX6_make_51 rfl rfl) (L_iload (x := hour_) 5 X dX6_make_52 rfl) (L_iload (x := length_) 6 X dX6_make_54 rfl) (fun r v0 v1 v2 v3 st mm a b hd hc hs h => g_callIo (st := st) (cI := 5) X hT htr (fun q => M_X4_init q v0 v1 v2 v3) lk_X4_init im_X4_init rfl ml_X6_87 rfl (by rw [hR]; exact ⟨Nat.le_of_ble_eq_true rfl, Nat.le_of_ble_eq_true rfl⟩) (Nat.le_trans hd (by decide)) ⟨hc, hs⟩ dX6_make_56 h)) rfl) (fun r v0 v1 v2 st mm a b hd hc hs h => g_callIo (st := st) (cI := 1) X hT htr (fun q => M_X0_init q v0 v1 v2) lk_X0_init im_X0_init rfl ml_X6_90 rfl (by rw [hR]; exact ⟨Nat.le_of_ble_eq_true rfl, Nat.le_of_ble_eq_true rfl⟩) (Nat.le_trans hd (by decide)) ⟨hc, hs⟩ dX6_make_59 h)) rfl) (S_astore (ev := fun made_25 => [(7, va_rf made_25), (6, va_rf clock_4), (0, va_rf (some this)), (1, .int person_), (2, .int zone_), (3, .int day_), (4, .int hour_), (5, .int length_)]) X dX6_make_62 (by rw [hN]; decide) (fun _ => (by cases clock_4 <;> rfl))) fun made_25 =>
  (SB_do (XE_3 wR wI (XE_1 (L_aload_n (r := (some this)) 2 X dX6_make_64 rfl rfl) (O_gr (c := 7) (j := 2) X rfl inW6 (by decide) fl_X6_23 rfl dX6_make_65)) (XE_1 (L_aload (r := made_25) 0 X dX6_make_68 rfl) (O_gi (c := 1) (j := 0) X rfl inW0 (by decide) fl_X6_93 rfl dX6_make_70)) (L_aload (r := made_25) 0 X dX6_make_73 rfl) (O_sar (c := 1) X rfl (by decide) rfl dX6_make_75))
  (SB_do (XE_dup wI (L_aload_n (r := (some this)) 2 X dX6_make_76 rfl rfl) (S_dup X dX6_make_77) (O_gi (c := 7) (j := 4) X rfl inW6 (by decide) fl_X6_78 rfl dX6_make_78) (L_iconst (v := 1) X dX6_make_81 (by decide)) (O_iadd X dX6_make_82) (O_si (c := 7) (j := 4) tyX6 X rfl inW6 tyX6_ok nmX6 (by decide) fl_X6_78 (Or.inl rfl) rfl (by decide +kernel) dX6_make_83))
  (SB_do (XE_3 (pB := pU) wR wI (L_aload_n (r := (some this)) 2 X dX6_make_86 rfl rfl) (L_iload_n (x := person_) 3 X dX6_make_87 rfl rfl) (L_aload (r := made_25) 0 X dX6_make_88 rfl) (fun v0 v1 v2 st mm a b hd hc hs h => g_callVo (st := st) (cI := 7) X hT htr rfl (fun q => M_X6_markEntry q v1 v2) lk_X6_markEntry im_X6_markEntry se_X6_markEntry ml_X6_96 rfl (by rw [hR]; exact ⟨Nat.le_of_ble_eq_true rfl, Nat.le_of_ble_eq_true rfl⟩) (Nat.le_trans hd (by decide)) ⟨hc, hs⟩ dX6_make_90 h))
  (SB_retI X C hr dX6_make_98 (XE_1 (L_aload (r := made_25) 0 X dX6_make_93 rfl) (O_gi (c := 1) (j := 0) X rfl inW0 (by decide) fl_X6_93 rfl dX6_make_95))))))))))) h (by rw [hR]; decide) (by rw [hR]; decide)
theorem dX6_meetingNumbered_0 : decode cX6_meetingNumbered 0 = .ok (.iload_n 1, 1) := by decide +kernel
theorem dX6_meetingNumbered_1 : decode cX6_meetingNumbered 1 = .ok (.ifCond .lt 11, 3) := by decide +kernel
theorem dX6_meetingNumbered_4 : decode cX6_meetingNumbered 4 = .ok (.iload_n 1, 1) := by decide +kernel
theorem dX6_meetingNumbered_5 : decode cX6_meetingNumbered 5 = .ok (.aload_n 0, 1) := by decide +kernel
theorem dX6_meetingNumbered_6 : decode cX6_meetingNumbered 6 = .ok (.getfield 78, 3) := by decide +kernel
theorem dX6_meetingNumbered_9 : decode cX6_meetingNumbered 9 = .ok (.if_icmp .lt 11, 3) := by decide +kernel
theorem dX6_meetingNumbered_12 : decode cX6_meetingNumbered 12 = .ok (.new 281, 3) := by decide +kernel
theorem dX6_meetingNumbered_15 : decode cX6_meetingNumbered 15 = .ok (.dup, 1) := by decide +kernel
theorem dX6_meetingNumbered_16 : decode cX6_meetingNumbered 16 = .ok (.invokespecial 283, 3) := by decide +kernel
theorem dX6_meetingNumbered_19 : decode cX6_meetingNumbered 19 = .ok (.athrow, 1) := by decide +kernel
theorem dX6_meetingNumbered_20 : decode cX6_meetingNumbered 20 = .ok (.aload_n 0, 1) := by decide +kernel
theorem dX6_meetingNumbered_21 : decode cX6_meetingNumbered 21 = .ok (.getfield 23, 3) := by decide +kernel
theorem dX6_meetingNumbered_24 : decode cX6_meetingNumbered 24 = .ok (.iload_n 1, 1) := by decide +kernel
theorem dX6_meetingNumbered_25 : decode cX6_meetingNumbered 25 = .ok (.aaload, 1) := by decide +kernel
theorem dX6_meetingNumbered_26 : decode cX6_meetingNumbered 26 = .ok (.areturn, 1) := by decide +kernel
theorem lk_X6_meetingNumbered : LK yX6_meetingNumbered cX6_meetingNumbered 2 (some (.object "MeetingServer$Meeting")) 1 := ⟨qW_at 424 (by decide +kernel) rfl, qW_at 29 (by decide +kernel) rfl, by decide, by decide, by decide +kernel⟩
theorem im_X6_meetingNumbered : Cond.instanceMethod yX6_meetingNumbered ∈ qW := qW_at 423 (by decide +kernel) rfl
theorem se_X6_meetingNumbered : Cond.selects RX6 yX6_meetingNumbered yX6_meetingNumbered ∈ qW := qW_at 6 (by decide +kernel) rfl
def F_X6_meetingNumbered (this : Nat) (meeting_ : Int32) : QX (Option Nat) :=
  (xb (xb (xb (xp meeting_) fun v1 => xp (decide (v1 < 0))) fun v5 => if v5 then xp true else (xb (xp meeting_) fun v2 => xb (xb (xp (some this)) fun v3 => xgi 7 4 v3) fun v4 => xp (decide (v4 ≤ v2)))) fun v9 => if v9 then (xth 1) else
  (xb (xb (xp (some this)) fun v6 => xgr 7 2 v6) fun v7 => xb (xp meeting_) fun v8 => xar 1 v7 v8))
set_option maxRecDepth 100000 in
set_option maxHeartbeats 4000000 in
theorem M_X6_meetingNumbered (this : Nat) (meeting_ : Int32) : MM yX6_meetingNumbered cX6_meetingNumbered 2 (some (.object "MeetingServer$Meeting")) 6 81 1 6 encR [.ref this, .int meeting_] (F_X6_meetingNumbered this meeting_) := by
  refine MM_of (env0 := [(0, va_rf (some this)), (1, .int meeting_)]) (by decide) (by exact Nat.le_of_ble_eq_true rfl) (by rfl) (fun k mm res X C hR hN hr hname h => ?_)
  have X : CX k cX6_meetingNumbered RX6 := X
  have hT : TH k (fun e m' => res = (.error e, m')) := TH_of C
  have htr := C.2.2.2.1
  unfold F_X6_meetingNumbered at h
  exact SB_go (T := fun e m' => res = (.error e, m')) (RET := fun v m' => res = (.ok v, m')) (SB_if (CE_or (CE_1 (L_iload_n (x := meeting_) 1 X dX6_meetingNumbered_0 rfl rfl) (Z_lt_T X dX6_meetingNumbered_1 (by decide))) (CE_2 wI (L_iload_n (x := meeting_) 1 X dX6_meetingNumbered_4 rfl rfl) (XE_1 (L_aload_n (r := (some this)) 0 X dX6_meetingNumbered_5 rfl rfl) (O_gi (c := 7) (j := 4) X rfl inW6 (by decide) fl_X6_78 rfl dX6_meetingNumbered_6)) (C_ge_F X dX6_meetingNumbered_9 (by decide))))
  (SB_throw fun mm a b ha hb h => g_throw (e := 1) X C (by decide) tk_X6_281_283 ti_1 ta_X6_281_283 tg_X6_281_283 (by rw [hR]; exact Nat.le_of_ble_eq_true rfl) (by rw [hR]; exact Nat.le_of_ble_eq_true rfl) ha hb dX6_meetingNumbered_12 dX6_meetingNumbered_15 dX6_meetingNumbered_16 dX6_meetingNumbered_19 h)
  (SB_retR X C hr (Or.inl ⟨_, rfl⟩) dX6_meetingNumbered_26 (XE_2 wR (XE_1 (L_aload_n (r := (some this)) 0 X dX6_meetingNumbered_20 rfl rfl) (O_gr (c := 7) (j := 2) X rfl inW6 (by decide) fl_X6_23 rfl dX6_meetingNumbered_21)) (L_iload_n (x := meeting_) 1 X dX6_meetingNumbered_24 rfl rfl) (O_ar (c := 1) X (by decide) rfl dX6_meetingNumbered_25)))) h (by rw [hR]; decide) (by rw [hR]; decide)
theorem dX6_putVersion_0 : decode cX6_putVersion 0 = .ok (.aload_n 1, 1) := by decide +kernel
theorem dX6_putVersion_1 : decode cX6_putVersion 1 = .ok (.aload_n 2, 1) := by decide +kernel
theorem dX6_putVersion_2 : decode cX6_putVersion 2 = .ok (.putfield 104, 3) := by decide +kernel
theorem dX6_putVersion_5 : decode cX6_putVersion 5 = .ok (.aload_n 0, 1) := by decide +kernel
theorem dX6_putVersion_6 : decode cX6_putVersion 6 = .ok (.aload_n 1, 1) := by decide +kernel
theorem dX6_putVersion_7 : decode cX6_putVersion 7 = .ok (.getfield 141, 3) := by decide +kernel
theorem dX6_putVersion_10 : decode cX6_putVersion 10 = .ok (.aload_n 1, 1) := by decide +kernel
theorem dX6_putVersion_11 : decode cX6_putVersion 11 = .ok (.invokevirtual 96, 3) := by decide +kernel
theorem dX6_putVersion_14 : decode cX6_putVersion 14 = .ok (.aload_n 2, 1) := by decide +kernel
theorem dX6_putVersion_15 : decode cX6_putVersion 15 = .ok (.getfield 275, 3) := by decide +kernel
theorem dX6_putVersion_18 : decode cX6_putVersion 18 = .ok (.ireturn, 1) := by decide +kernel
theorem lk_X6_putVersion : LK yX6_putVersion cX6_putVersion 3 (some .int) 2 := ⟨qW_at 1074 (by decide +kernel) rfl, qW_at 29 (by decide +kernel) rfl, by decide, by decide, by decide +kernel⟩
theorem im_X6_putVersion : Cond.instanceMethod yX6_putVersion ∈ qW := qW_at 1073 (by decide +kernel) rfl
theorem se_X6_putVersion : Cond.selects RX6 yX6_putVersion yX6_putVersion ∈ qW := qW_at 21 (by decide +kernel) rfl
def F_X6_putVersion (this : Nat) (meeting_ : Option Nat) (next_ : Option Nat) : QX Int32 :=
  (xb (xb (xp meeting_) fun v1 => xb (xp next_) fun v2 => xsr 1 2 v1 v2) fun _ =>
  (xb (xb (xp (some this)) fun v4 => xb (xb (xp meeting_) fun v3 => xgi 1 1 v3) fun v5 => xb (xp meeting_) fun v6 => xo 7 v4 fun q => F_X6_markEntry q v5 v6) fun _ =>
  (xb (xp next_) fun v7 => xgi 5 0 v7)))
set_option maxRecDepth 100000 in
set_option maxHeartbeats 4000000 in
theorem M_X6_putVersion (this : Nat) (meeting_ : Option Nat) (next_ : Option Nat) : MM yX6_putVersion cX6_putVersion 3 (some .int) 3 70 0 0 encI [.ref this, va_rf meeting_, va_rf next_] (F_X6_putVersion this meeting_ next_) := by
  refine MM_of (env0 := [(0, va_rf (some this)), (1, va_rf meeting_), (2, va_rf next_)]) (by decide) (by cases meeting_ <;> cases next_ <;> exact Nat.le_of_ble_eq_true rfl) (by cases meeting_ <;> cases next_ <;> rfl) (fun k mm res X C hR hN hr hname h => ?_)
  have X : CX k cX6_putVersion RX6 := X
  have hT : TH k (fun e m' => res = (.error e, m')) := TH_of C
  have htr := C.2.2.2.1
  unfold F_X6_putVersion at h
  exact SB_go (T := fun e m' => res = (.error e, m')) (RET := fun v m' => res = (.ok v, m')) (SB_do (XE_2 wR (L_aload_n (r := meeting_) 1 X dX6_putVersion_0 rfl rfl) (L_aload_n (r := next_) 2 X dX6_putVersion_1 rfl rfl) (O_sr (c := 1) (j := 2) tyX0 X rfl inW0 tyX0_ok nmX0 (by decide) fl_X6_104 (Or.inl rfl) rfl (by decide +kernel : parseFieldDescriptor (TX0 2).2.2.1 = some (.object "MeetingServer$Version")) (Or.inl ⟨_, rfl⟩) dX6_putVersion_2))
  (SB_do (XE_3 (pB := pU) wR wI (L_aload_n (r := (some this)) 0 X dX6_putVersion_5 rfl rfl) (XE_1 (L_aload_n (r := meeting_) 1 X dX6_putVersion_6 rfl rfl) (O_gi (c := 1) (j := 1) X rfl inW0 (by decide) fl_X6_141 rfl dX6_putVersion_7)) (L_aload_n (r := meeting_) 1 X dX6_putVersion_10 rfl rfl) (fun v0 v1 v2 st mm a b hd hc hs h => g_callVo (st := st) (cI := 7) X hT htr rfl (fun q => M_X6_markEntry q v1 v2) lk_X6_markEntry im_X6_markEntry se_X6_markEntry ml_X6_96 rfl (by rw [hR]; exact ⟨Nat.le_of_ble_eq_true rfl, Nat.le_of_ble_eq_true rfl⟩) (Nat.le_trans hd (by decide)) ⟨hc, hs⟩ dX6_putVersion_11 h))
  (SB_retI X C hr dX6_putVersion_18 (XE_1 (L_aload_n (r := next_) 2 X dX6_putVersion_14 rfl rfl) (O_gi (c := 5) (j := 0) X rfl inW4 (by decide) fl_X6_275 rfl dX6_putVersion_15))))) h (by rw [hR]; decide) (by rw [hR]; decide)
theorem dX6_time_0 : decode cX6_time 0 = .ok (.aload_n 0, 1) := by decide +kernel
theorem dX6_time_1 : decode cX6_time 1 = .ok (.iload_n 1, 1) := by decide +kernel
theorem dX6_time_2 : decode cX6_time 2 = .ok (.invokevirtual 100, 3) := by decide +kernel
theorem dX6_time_5 : decode cX6_time 5 = .ok (.astore 5, 2) := by decide +kernel
theorem dX6_time_7 : decode cX6_time 7 = .ok (.iload_n 2, 1) := by decide +kernel
theorem dX6_time_8 : decode cX6_time 8 = .ok (.iload_n 3, 1) := by decide +kernel
theorem dX6_time_9 : decode cX6_time 9 = .ok (.iload 4, 2) := by decide +kernel
theorem dX6_time_11 : decode cX6_time 11 = .ok (.invokestatic 75, 3) := by decide +kernel
theorem dX6_time_14 : decode cX6_time 14 = .ok (.aload 5, 2) := by decide +kernel
theorem dX6_time_16 : decode cX6_time 16 = .ok (.getfield 104, 3) := by decide +kernel
theorem dX6_time_19 : decode cX6_time 19 = .ok (.getfield 108, 3) := by decide +kernel
theorem dX6_time_22 : decode cX6_time 22 = .ok (.ifCond .ne 7, 3) := by decide +kernel
theorem dX6_time_25 : decode cX6_time 25 = .ok (.iconst 1, 1) := by decide +kernel
theorem dX6_time_26 : decode cX6_time 26 = .ok (.goto 4, 3) := by decide +kernel
theorem dX6_time_29 : decode cX6_time 29 = .ok (.iconst 0, 1) := by decide +kernel
theorem dX6_time_30 : decode cX6_time 30 = .ok (.invokestatic 81, 3) := by decide +kernel
theorem dX6_time_33 : decode cX6_time 33 = .ok (.aload_n 0, 1) := by decide +kernel
theorem dX6_time_34 : decode cX6_time 34 = .ok (.aload 5, 2) := by decide +kernel
theorem dX6_time_36 : decode cX6_time 36 = .ok (.aload 5, 2) := by decide +kernel
theorem dX6_time_38 : decode cX6_time 38 = .ok (.getfield 104, 3) := by decide +kernel
theorem dX6_time_41 : decode cX6_time 41 = .ok (.iload_n 2, 1) := by decide +kernel
theorem dX6_time_42 : decode cX6_time 42 = .ok (.iload_n 3, 1) := by decide +kernel
theorem dX6_time_43 : decode cX6_time 43 = .ok (.iload 4, 2) := by decide +kernel
theorem dX6_time_45 : decode cX6_time 45 = .ok (.invokevirtual 112, 3) := by decide +kernel
theorem dX6_time_48 : decode cX6_time 48 = .ok (.invokevirtual 116, 3) := by decide +kernel
theorem dX6_time_51 : decode cX6_time 51 = .ok (.ireturn, 1) := by decide +kernel
theorem lk_X6_time : LK yX6_time cX6_time 6 (some .int) 4 := ⟨qW_at 1062 (by decide +kernel) rfl, qW_at 29 (by decide +kernel) rfl, by decide, by decide, by decide +kernel⟩
theorem im_X6_time : Cond.instanceMethod yX6_time ∈ qW := qW_at 1060 (by decide +kernel) rfl
theorem se_X6_time : Cond.selects RX6 yX6_time yX6_time ∈ qW := qW_at 1061 (by decide +kernel) rfl
def F_X6_time (this : Nat) (meeting_ : Int32) (day_ : Int32) (hour_ : Int32) (length_ : Int32) : QX Int32 :=
  (xb (xb (xp (some this)) fun v1 => xb (xp meeting_) fun v2 => xo 7 v1 fun q => F_X6_meetingNumbered q v2) fun changed_3 =>
  (xb (xb (xp day_) fun v4 => xb (xp hour_) fun v5 => xb (xp length_) fun v6 => F_X6_needTime v4 v5 v6) fun _ =>
  (xb (xb (xb (xb (xb (xb (xb (xp changed_3) fun v7 => xgr 1 2 v7) fun v8 => xgi 5 16 v8) fun v9 => xp (decide (¬ v9 = 0))) fun v10 => xp (!v10)) fun v11 => xp (b2i v11)) fun v12 => F_X6_needState v12) fun _ =>
  (xb (xp (some this)) fun v18 => xb (xp changed_3) fun v19 => xb (xb (xb (xp changed_3) fun v13 => xgr 1 2 v13) fun v14 => xb (xp day_) fun v15 => xb (xp hour_) fun v16 => xb (xp length_) fun v17 => xo 5 v14 fun q => F_X4_withTime q v15 v16 v17) fun v20 => xo 7 v18 fun q => F_X6_putVersion q v19 v20))))
set_option maxRecDepth 100000 in
set_option maxHeartbeats 4000000 in
theorem M_X6_time (this : Nat) (meeting_ : Int32) (day_ : Int32) (hour_ : Int32) (length_ : Int32) : MM yX6_time cX6_time 6 (some .int) 9 145 8 171 encI [.ref this, .int meeting_, .int day_, .int hour_, .int length_] (F_X6_time this meeting_ day_ hour_ length_) := by
  refine MM_of (env0 := [(0, va_rf (some this)), (1, .int meeting_), (2, .int day_), (3, .int hour_), (4, .int length_)]) (by decide) (by exact Nat.le_of_ble_eq_true rfl) (by rfl) (fun k mm res X C hR hN hr hname h => ?_)
  have X : CX k cX6_time RX6 := X
  have hT : TH k (fun e m' => res = (.error e, m')) := TH_of C
  have htr := C.2.2.2.1
  unfold F_X6_time at h
  exact SB_go (T := fun e m' => res = (.error e, m')) (RET := fun v m' => res = (.ok v, m')) (SB_let (XE_2 (pB := pR) wR (L_aload_n (r := (some this)) 0 X dX6_time_0 rfl rfl) (L_iload_n (x := meeting_) 1 X dX6_time_1 rfl rfl) (fun v0 v1 st mm a b hd hc hs h => g_callVo (st := st) (cI := 7) X hT htr rfl (fun q => M_X6_meetingNumbered q v1) lk_X6_meetingNumbered im_X6_meetingNumbered se_X6_meetingNumbered ml_X6_100 rfl (by rw [hR]; exact ⟨Nat.le_of_ble_eq_true rfl, Nat.le_of_ble_eq_true rfl⟩) (Nat.le_trans hd (by decide)) ⟨hc, hs⟩ dX6_time_2 h)) (S_astore (ev := fun changed_3 => [(5, va_rf changed_3), (0, va_rf (some this)), (1, .int meeting_), (2, .int day_), (3, .int hour_), (4, .int length_)]) X dX6_time_5 (by rw [hN]; decide) (fun _ => rfl)) fun changed_3 =>
  (SB_do (XE_3 (pB := pU) wI wI (L_iload_n (x := day_) 3 X dX6_time_7 rfl rfl) (L_iload_n (x := hour_) 4 X dX6_time_8 rfl rfl) (L_iload (x := length_) 5 X dX6_time_9 rfl) (fun v0 v1 v2 st mm a b hd hc hs h => g_callS (st := st) X hT htr (M_X6_needTime v0 v1 v2) lk_X6_needTime st_X6_needTime ml_X6_75 rfl (by rw [hR]; exact ⟨Nat.le_of_ble_eq_true rfl, Nat.le_of_ble_eq_true rfl⟩) (Nat.le_trans hd (by decide)) ⟨hc, hs⟩ dX6_time_11 h))
  (SB_do (XE_1 (pB := pU)  (XE_b2i (CE_not (CE_1 (XE_1 (XE_1 (L_aload (r := changed_3) 0 X dX6_time_14 rfl) (O_gr (c := 1) (j := 2) X rfl inW0 (by decide) fl_X6_104 rfl dX6_time_16)) (O_gi (c := 5) (j := 16) X rfl inW4 (by decide) fl_X6_108 rfl dX6_time_19)) (Z_ne_T X dX6_time_22 (by decide)))) (S_b1 X dX6_time_25 dX6_time_26 (by decide)) (S_b0 X dX6_time_29)) (fun v0 st mm a b hd hc hs h => g_callS (st := st) X hT htr (M_X6_needState v0) lk_X6_needState st_X6_needState ml_X6_81 rfl (by rw [hR]; exact ⟨Nat.le_of_ble_eq_true rfl, Nat.le_of_ble_eq_true rfl⟩) (Nat.le_trans hd (by decide)) ⟨hc, hs⟩ dX6_time_30 h))
  (SB_retI X C hr dX6_time_51 (XE_3 (pB := pI) wR wR (L_aload_n (r := (some this)) 1 X dX6_time_33 rfl rfl) (L_aload (r := changed_3) 0 X dX6_time_34 rfl) (XE_4 (pB := pR) wR wI wI (XE_1 (L_aload (r := changed_3) 0 X dX6_time_36 rfl) (O_gr (c := 1) (j := 2) X rfl inW0 (by decide) fl_X6_104 rfl dX6_time_38)) (L_iload_n (x := day_) 3 X dX6_time_41 rfl rfl) (L_iload_n (x := hour_) 4 X dX6_time_42 rfl rfl) (L_iload (x := length_) 5 X dX6_time_43 rfl) (fun v0 v1 v2 v3 st mm a b hd hc hs h => g_callVo (st := st) (cI := 5) X hT htr rfl (fun q => M_X4_withTime q v1 v2 v3) lk_X4_withTime im_X4_withTime se_X4_withTime ml_X6_112 rfl (by rw [hR]; exact ⟨Nat.le_of_ble_eq_true rfl, Nat.le_of_ble_eq_true rfl⟩) (Nat.le_trans hd (by decide)) ⟨hc, hs⟩ dX6_time_45 h)) (fun v0 v1 v2 st mm a b hd hc hs h => g_callVo (st := st) (cI := 7) X hT htr rfl (fun q => M_X6_putVersion q v1 v2) lk_X6_putVersion im_X6_putVersion se_X6_putVersion ml_X6_116 rfl (by rw [hR]; exact ⟨Nat.le_of_ble_eq_true rfl, Nat.le_of_ble_eq_true rfl⟩) (Nat.le_trans hd (by decide)) ⟨hc, hs⟩ dX6_time_48 h)))))) h (by rw [hR]; decide) (by rw [hR]; decide)
theorem dX6_repeat_0 : decode cX6_repeat 0 = .ok (.aload_n 0, 1) := by decide +kernel
theorem dX6_repeat_1 : decode cX6_repeat 1 = .ok (.iload_n 1, 1) := by decide +kernel
theorem dX6_repeat_2 : decode cX6_repeat 2 = .ok (.invokevirtual 100, 3) := by decide +kernel
theorem dX6_repeat_5 : decode cX6_repeat 5 = .ok (.astore 5, 2) := by decide +kernel
theorem dX6_repeat_7 : decode cX6_repeat 7 = .ok (.iload_n 2, 1) := by decide +kernel
theorem dX6_repeat_8 : decode cX6_repeat 8 = .ok (.iconst 1, 1) := by decide +kernel
theorem dX6_repeat_9 : decode cX6_repeat 9 = .ok (.bipush 28, 2) := by decide +kernel
theorem dX6_repeat_11 : decode cX6_repeat 11 = .ok (.invokestatic 47, 3) := by decide +kernel
theorem dX6_repeat_14 : decode cX6_repeat 14 = .ok (.iload_n 3, 1) := by decide +kernel
theorem dX6_repeat_15 : decode cX6_repeat 15 = .ok (.iconst 1, 1) := by decide +kernel
theorem dX6_repeat_16 : decode cX6_repeat 16 = .ok (.bipush 127, 2) := by decide +kernel
theorem dX6_repeat_18 : decode cX6_repeat 18 = .ok (.invokestatic 47, 3) := by decide +kernel
theorem dX6_repeat_21 : decode cX6_repeat 21 = .ok (.iload 4, 2) := by decide +kernel
theorem dX6_repeat_23 : decode cX6_repeat 23 = .ok (.iconst 1, 1) := by decide +kernel
theorem dX6_repeat_24 : decode cX6_repeat 24 = .ok (.bipush 10, 2) := by decide +kernel
theorem dX6_repeat_26 : decode cX6_repeat 26 = .ok (.invokestatic 47, 3) := by decide +kernel
theorem dX6_repeat_29 : decode cX6_repeat 29 = .ok (.aload 5, 2) := by decide +kernel
theorem dX6_repeat_31 : decode cX6_repeat 31 = .ok (.getfield 104, 3) := by decide +kernel
theorem dX6_repeat_34 : decode cX6_repeat 34 = .ok (.getfield 108, 3) := by decide +kernel
theorem dX6_repeat_37 : decode cX6_repeat 37 = .ok (.ifCond .ne 7, 3) := by decide +kernel
theorem dX6_repeat_40 : decode cX6_repeat 40 = .ok (.iconst 1, 1) := by decide +kernel
theorem dX6_repeat_41 : decode cX6_repeat 41 = .ok (.goto 4, 3) := by decide +kernel
theorem dX6_repeat_44 : decode cX6_repeat 44 = .ok (.iconst 0, 1) := by decide +kernel
theorem dX6_repeat_45 : decode cX6_repeat 45 = .ok (.invokestatic 81, 3) := by decide +kernel
theorem dX6_repeat_48 : decode cX6_repeat 48 = .ok (.aload_n 0, 1) := by decide +kernel
theorem dX6_repeat_49 : decode cX6_repeat 49 = .ok (.aload 5, 2) := by decide +kernel
theorem dX6_repeat_51 : decode cX6_repeat 51 = .ok (.aload 5, 2) := by decide +kernel
theorem dX6_repeat_53 : decode cX6_repeat 53 = .ok (.getfield 104, 3) := by decide +kernel
theorem dX6_repeat_56 : decode cX6_repeat 56 = .ok (.iload_n 2, 1) := by decide +kernel
theorem dX6_repeat_57 : decode cX6_repeat 57 = .ok (.iload_n 3, 1) := by decide +kernel
theorem dX6_repeat_58 : decode cX6_repeat 58 = .ok (.iload 4, 2) := by decide +kernel
theorem dX6_repeat_60 : decode cX6_repeat 60 = .ok (.invokevirtual 120, 3) := by decide +kernel
theorem dX6_repeat_63 : decode cX6_repeat 63 = .ok (.invokevirtual 116, 3) := by decide +kernel
theorem dX6_repeat_66 : decode cX6_repeat 66 = .ok (.ireturn, 1) := by decide +kernel
theorem lk_X6_repeat : LK yX6_repeat cX6_repeat 6 (some .int) 4 := ⟨qW_at 1084 (by decide +kernel) rfl, qW_at 29 (by decide +kernel) rfl, by decide, by decide, by decide +kernel⟩
theorem im_X6_repeat : Cond.instanceMethod yX6_repeat ∈ qW := qW_at 1082 (by decide +kernel) rfl
theorem se_X6_repeat : Cond.selects RX6 yX6_repeat yX6_repeat ∈ qW := qW_at 1083 (by decide +kernel) rfl
def F_X6_repeat (this : Nat) (meeting_ : Int32) (step_ : Int32) (weekdays_ : Int32) (count_ : Int32) : QX Int32 :=
  (xb (xb (xp (some this)) fun v1 => xb (xp meeting_) fun v2 => xo 7 v1 fun q => F_X6_meetingNumbered q v2) fun changed_3 =>
  (xb (xb (xp step_) fun v4 => xb (xp (1 : Int32)) fun v5 => xb (xp (28 : Int32)) fun v6 => F_X6_needRange v4 v5 v6) fun _ =>
  (xb (xb (xp weekdays_) fun v7 => xb (xp (1 : Int32)) fun v8 => xb (xp (127 : Int32)) fun v9 => F_X6_needRange v7 v8 v9) fun _ =>
  (xb (xb (xp count_) fun v10 => xb (xp (1 : Int32)) fun v11 => xb (xp (10 : Int32)) fun v12 => F_X6_needRange v10 v11 v12) fun _ =>
  (xb (xb (xb (xb (xb (xb (xb (xp changed_3) fun v13 => xgr 1 2 v13) fun v14 => xgi 5 16 v14) fun v15 => xp (decide (¬ v15 = 0))) fun v16 => xp (!v16)) fun v17 => xp (b2i v17)) fun v18 => F_X6_needState v18) fun _ =>
  (xb (xp (some this)) fun v24 => xb (xp changed_3) fun v25 => xb (xb (xb (xp changed_3) fun v19 => xgr 1 2 v19) fun v20 => xb (xp step_) fun v21 => xb (xp weekdays_) fun v22 => xb (xp count_) fun v23 => xo 5 v20 fun q => F_X4_withRule q v21 v22 v23) fun v26 => xo 7 v24 fun q => F_X6_putVersion q v25 v26))))))
set_option maxRecDepth 100000 in
set_option maxHeartbeats 4000000 in
theorem M_X6_repeat (this : Nat) (meeting_ : Int32) (step_ : Int32) (weekdays_ : Int32) (count_ : Int32) : MM yX6_repeat cX6_repeat 6 (some .int) 8 123 8 171 encI [.ref this, .int meeting_, .int step_, .int weekdays_, .int count_] (F_X6_repeat this meeting_ step_ weekdays_ count_) := by
  refine MM_of (env0 := [(0, va_rf (some this)), (1, .int meeting_), (2, .int step_), (3, .int weekdays_), (4, .int count_)]) (by decide) (by exact Nat.le_of_ble_eq_true rfl) (by rfl) (fun k mm res X C hR hN hr hname h => ?_)
  have X : CX k cX6_repeat RX6 := X
  have hT : TH k (fun e m' => res = (.error e, m')) := TH_of C
  have htr := C.2.2.2.1
  unfold F_X6_repeat at h
  exact SB_go (T := fun e m' => res = (.error e, m')) (RET := fun v m' => res = (.ok v, m')) (SB_let (XE_2 (pB := pR) wR (L_aload_n (r := (some this)) 0 X dX6_repeat_0 rfl rfl) (L_iload_n (x := meeting_) 1 X dX6_repeat_1 rfl rfl) (fun v0 v1 st mm a b hd hc hs h => g_callVo (st := st) (cI := 7) X hT htr rfl (fun q => M_X6_meetingNumbered q v1) lk_X6_meetingNumbered im_X6_meetingNumbered se_X6_meetingNumbered ml_X6_100 rfl (by rw [hR]; exact ⟨Nat.le_of_ble_eq_true rfl, Nat.le_of_ble_eq_true rfl⟩) (Nat.le_trans hd (by decide)) ⟨hc, hs⟩ dX6_repeat_2 h)) (S_astore (ev := fun changed_3 => [(5, va_rf changed_3), (0, va_rf (some this)), (1, .int meeting_), (2, .int step_), (3, .int weekdays_), (4, .int count_)]) X dX6_repeat_5 (by rw [hN]; decide) (fun _ => rfl)) fun changed_3 =>
  (SB_do (XE_3 (pB := pU) wI wI (L_iload_n (x := step_) 3 X dX6_repeat_7 rfl rfl) (L_iconst (v := 1) X dX6_repeat_8 (by decide)) (L_bipush (v := (28)) X dX6_repeat_9 (by decide)) (fun v0 v1 v2 st mm a b hd hc hs h => g_callS (st := st) X hT htr (M_X6_needRange v0 v1 v2) lk_X6_needRange st_X6_needRange ml_X6_47 rfl (by rw [hR]; exact ⟨Nat.le_of_ble_eq_true rfl, Nat.le_of_ble_eq_true rfl⟩) (Nat.le_trans hd (by decide)) ⟨hc, hs⟩ dX6_repeat_11 h))
  (SB_do (XE_3 (pB := pU) wI wI (L_iload_n (x := weekdays_) 4 X dX6_repeat_14 rfl rfl) (L_iconst (v := 1) X dX6_repeat_15 (by decide)) (L_bipush (v := (127)) X dX6_repeat_16 (by decide)) (fun v0 v1 v2 st mm a b hd hc hs h => g_callS (st := st) X hT htr (M_X6_needRange v0 v1 v2) lk_X6_needRange st_X6_needRange ml_X6_47 rfl (by rw [hR]; exact ⟨Nat.le_of_ble_eq_true rfl, Nat.le_of_ble_eq_true rfl⟩) (Nat.le_trans hd (by decide)) ⟨hc, hs⟩ dX6_repeat_18 h))
  (SB_do (XE_3 (pB := pU) wI wI (L_iload (x := count_) 5 X dX6_repeat_21 rfl) (L_iconst (v := 1) X dX6_repeat_23 (by decide)) (L_bipush (v := (10)) X dX6_repeat_24 (by decide)) (fun v0 v1 v2 st mm a b hd hc hs h => g_callS (st := st) X hT htr (M_X6_needRange v0 v1 v2) lk_X6_needRange st_X6_needRange ml_X6_47 rfl (by rw [hR]; exact ⟨Nat.le_of_ble_eq_true rfl, Nat.le_of_ble_eq_true rfl⟩) (Nat.le_trans hd (by decide)) ⟨hc, hs⟩ dX6_repeat_26 h))
  (SB_do (XE_1 (pB := pU)  (XE_b2i (CE_not (CE_1 (XE_1 (XE_1 (L_aload (r := changed_3) 0 X dX6_repeat_29 rfl) (O_gr (c := 1) (j := 2) X rfl inW0 (by decide) fl_X6_104 rfl dX6_repeat_31)) (O_gi (c := 5) (j := 16) X rfl inW4 (by decide) fl_X6_108 rfl dX6_repeat_34)) (Z_ne_T X dX6_repeat_37 (by decide)))) (S_b1 X dX6_repeat_40 dX6_repeat_41 (by decide)) (S_b0 X dX6_repeat_44)) (fun v0 st mm a b hd hc hs h => g_callS (st := st) X hT htr (M_X6_needState v0) lk_X6_needState st_X6_needState ml_X6_81 rfl (by rw [hR]; exact ⟨Nat.le_of_ble_eq_true rfl, Nat.le_of_ble_eq_true rfl⟩) (Nat.le_trans hd (by decide)) ⟨hc, hs⟩ dX6_repeat_45 h))
  (SB_retI X C hr dX6_repeat_66 (XE_3 (pB := pI) wR wR (L_aload_n (r := (some this)) 1 X dX6_repeat_48 rfl rfl) (L_aload (r := changed_3) 0 X dX6_repeat_49 rfl) (XE_4 (pB := pR) wR wI wI (XE_1 (L_aload (r := changed_3) 0 X dX6_repeat_51 rfl) (O_gr (c := 1) (j := 2) X rfl inW0 (by decide) fl_X6_104 rfl dX6_repeat_53)) (L_iload_n (x := step_) 3 X dX6_repeat_56 rfl rfl) (L_iload_n (x := weekdays_) 4 X dX6_repeat_57 rfl rfl) (L_iload (x := count_) 5 X dX6_repeat_58 rfl) (fun v0 v1 v2 v3 st mm a b hd hc hs h => g_callVo (st := st) (cI := 5) X hT htr rfl (fun q => M_X4_withRule q v1 v2 v3) lk_X4_withRule im_X4_withRule se_X4_withRule ml_X6_120 rfl (by rw [hR]; exact ⟨Nat.le_of_ble_eq_true rfl, Nat.le_of_ble_eq_true rfl⟩) (Nat.le_trans hd (by decide)) ⟨hc, hs⟩ dX6_repeat_60 h)) (fun v0 v1 v2 st mm a b hd hc hs h => g_callVo (st := st) (cI := 7) X hT htr rfl (fun q => M_X6_putVersion q v1 v2) lk_X6_putVersion im_X6_putVersion se_X6_putVersion ml_X6_116 rfl (by rw [hR]; exact ⟨Nat.le_of_ble_eq_true rfl, Nat.le_of_ble_eq_true rfl⟩) (Nat.le_trans hd (by decide)) ⟨hc, hs⟩ dX6_repeat_63 h)))))))) h (by rw [hR]; decide) (by rw [hR]; decide)
theorem dX6_drop_0 : decode cX6_drop 0 = .ok (.aload_n 0, 1) := by decide +kernel
theorem dX6_drop_1 : decode cX6_drop 1 = .ok (.iload_n 1, 1) := by decide +kernel
theorem dX6_drop_2 : decode cX6_drop 2 = .ok (.invokevirtual 100, 3) := by decide +kernel
theorem dX6_drop_5 : decode cX6_drop 5 = .ok (.astore_n 3, 1) := by decide +kernel
theorem dX6_drop_6 : decode cX6_drop 6 = .ok (.iload_n 2, 1) := by decide +kernel
theorem dX6_drop_7 : decode cX6_drop 7 = .ok (.invokestatic 55, 3) := by decide +kernel
theorem dX6_drop_10 : decode cX6_drop 10 = .ok (.aload_n 3, 1) := by decide +kernel
theorem dX6_drop_11 : decode cX6_drop 11 = .ok (.getfield 104, 3) := by decide +kernel
theorem dX6_drop_14 : decode cX6_drop 14 = .ok (.getfield 108, 3) := by decide +kernel
theorem dX6_drop_17 : decode cX6_drop 17 = .ok (.ifCond .ne 18, 3) := by decide +kernel
theorem dX6_drop_20 : decode cX6_drop 20 = .ok (.aload_n 3, 1) := by decide +kernel
theorem dX6_drop_21 : decode cX6_drop 21 = .ok (.getfield 104, 3) := by decide +kernel
theorem dX6_drop_24 : decode cX6_drop 24 = .ok (.iload_n 2, 1) := by decide +kernel
theorem dX6_drop_25 : decode cX6_drop 25 = .ok (.invokevirtual 123, 3) := by decide +kernel
theorem dX6_drop_28 : decode cX6_drop 28 = .ok (.ifCond .eq 7, 3) := by decide +kernel
theorem dX6_drop_31 : decode cX6_drop 31 = .ok (.iconst 1, 1) := by decide +kernel
theorem dX6_drop_32 : decode cX6_drop 32 = .ok (.goto 4, 3) := by decide +kernel
theorem dX6_drop_35 : decode cX6_drop 35 = .ok (.iconst 0, 1) := by decide +kernel
theorem dX6_drop_36 : decode cX6_drop 36 = .ok (.invokestatic 81, 3) := by decide +kernel
theorem dX6_drop_39 : decode cX6_drop 39 = .ok (.aload_n 0, 1) := by decide +kernel
theorem dX6_drop_40 : decode cX6_drop 40 = .ok (.aload_n 3, 1) := by decide +kernel
theorem dX6_drop_41 : decode cX6_drop 41 = .ok (.aload_n 3, 1) := by decide +kernel
theorem dX6_drop_42 : decode cX6_drop 42 = .ok (.getfield 104, 3) := by decide +kernel
theorem dX6_drop_45 : decode cX6_drop 45 = .ok (.iload_n 2, 1) := by decide +kernel
theorem dX6_drop_46 : decode cX6_drop 46 = .ok (.invokevirtual 127, 3) := by decide +kernel
theorem dX6_drop_49 : decode cX6_drop 49 = .ok (.invokevirtual 116, 3) := by decide +kernel
theorem dX6_drop_52 : decode cX6_drop 52 = .ok (.ireturn, 1) := by decide +kernel
theorem lk_X6_drop : LK yX6_drop cX6_drop 4 (some .int) 2 := ⟨qW_at 1096 (by decide +kernel) rfl, qW_at 29 (by decide +kernel) rfl, by decide, by decide, by decide +kernel⟩
theorem im_X6_drop : Cond.instanceMethod yX6_drop ∈ qW := qW_at 1094 (by decide +kernel) rfl
theorem se_X6_drop : Cond.selects RX6 yX6_drop yX6_drop ∈ qW := qW_at 1095 (by decide +kernel) rfl
def F_X6_drop (this : Nat) (meeting_ : Int32) (day_ : Int32) : QX Int32 :=
  (xb (xb (xp (some this)) fun v1 => xb (xp meeting_) fun v2 => xo 7 v1 fun q => F_X6_meetingNumbered q v2) fun changed_3 =>
  (xb (xb (xp day_) fun v4 => F_X6_needDay v4) fun _ =>
  (xb (xb (xb (xb (xb (xb (xb (xb (xp changed_3) fun v5 => xgr 1 2 v5) fun v6 => xgi 5 16 v6) fun v7 => xp (decide (¬ v7 = 0))) fun v8 => xp (!v8)) fun v13 => if v13 then (xb (xb (xb (xp changed_3) fun v9 => xgr 1 2 v9) fun v10 => xb (xp day_) fun v11 => xo 5 v10 fun q => F_X4_isDate q v11) fun v12 => xp (decide (¬ v12 = 0))) else xp false) fun v14 => xp (b2i v14)) fun v15 => F_X6_needState v15) fun _ =>
  (xb (xp (some this)) fun v19 => xb (xp changed_3) fun v20 => xb (xb (xb (xp changed_3) fun v16 => xgr 1 2 v16) fun v17 => xb (xp day_) fun v18 => xo 5 v17 fun q => F_X4_withoutDate q v18) fun v21 => xo 7 v19 fun q => F_X6_putVersion q v20 v21))))
set_option maxRecDepth 100000 in
set_option maxHeartbeats 4000000 in
theorem M_X6_drop (this : Nat) (meeting_ : Int32) (day_ : Int32) : MM yX6_drop cX6_drop 4 (some .int) 8 121 6 159 encI [.ref this, .int meeting_, .int day_] (F_X6_drop this meeting_ day_) := by
  refine MM_of (env0 := [(0, va_rf (some this)), (1, .int meeting_), (2, .int day_)]) (by decide) (by exact Nat.le_of_ble_eq_true rfl) (by rfl) (fun k mm res X C hR hN hr hname h => ?_)
  have X : CX k cX6_drop RX6 := X
  have hT : TH k (fun e m' => res = (.error e, m')) := TH_of C
  have htr := C.2.2.2.1
  unfold F_X6_drop at h
  exact SB_go (T := fun e m' => res = (.error e, m')) (RET := fun v m' => res = (.ok v, m')) (SB_let (XE_2 (pB := pR) wR (L_aload_n (r := (some this)) 0 X dX6_drop_0 rfl rfl) (L_iload_n (x := meeting_) 1 X dX6_drop_1 rfl rfl) (fun v0 v1 st mm a b hd hc hs h => g_callVo (st := st) (cI := 7) X hT htr rfl (fun q => M_X6_meetingNumbered q v1) lk_X6_meetingNumbered im_X6_meetingNumbered se_X6_meetingNumbered ml_X6_100 rfl (by rw [hR]; exact ⟨Nat.le_of_ble_eq_true rfl, Nat.le_of_ble_eq_true rfl⟩) (Nat.le_trans hd (by decide)) ⟨hc, hs⟩ dX6_drop_2 h)) (S_astore_n (ev := fun changed_3 => [(3, va_rf changed_3), (0, va_rf (some this)), (1, .int meeting_), (2, .int day_)]) X dX6_drop_5 rfl (by rw [hN]; decide) (fun _ => rfl)) fun changed_3 =>
  (SB_do (XE_1 (pB := pU)  (L_iload_n (x := day_) 3 X dX6_drop_6 rfl rfl) (fun v0 st mm a b hd hc hs h => g_callS (st := st) X hT htr (M_X6_needDay v0) lk_X6_needDay st_X6_needDay ml_X6_55 rfl (by rw [hR]; exact ⟨Nat.le_of_ble_eq_true rfl, Nat.le_of_ble_eq_true rfl⟩) (Nat.le_trans hd (by decide)) ⟨hc, hs⟩ dX6_drop_7 h))
  (SB_do (XE_1 (pB := pU)  (XE_b2i (CE_and (CE_not (CE_1 (XE_1 (XE_1 (L_aload_n (r := changed_3) 0 X dX6_drop_10 rfl rfl) (O_gr (c := 1) (j := 2) X rfl inW0 (by decide) fl_X6_104 rfl dX6_drop_11)) (O_gi (c := 5) (j := 16) X rfl inW4 (by decide) fl_X6_108 rfl dX6_drop_14)) (Z_ne_T X dX6_drop_17 (by decide)))) (CE_1 (XE_2 (pB := pI) wR (XE_1 (L_aload_n (r := changed_3) 0 X dX6_drop_20 rfl rfl) (O_gr (c := 1) (j := 2) X rfl inW0 (by decide) fl_X6_104 rfl dX6_drop_21)) (L_iload_n (x := day_) 3 X dX6_drop_24 rfl rfl) (fun v0 v1 st mm a b hd hc hs h => g_callVo (st := st) (cI := 5) X hT htr rfl (fun q => M_X4_isDate q v1) lk_X4_isDate im_X4_isDate se_X4_isDate ml_X6_123 rfl (by rw [hR]; exact ⟨Nat.le_of_ble_eq_true rfl, Nat.le_of_ble_eq_true rfl⟩) (Nat.le_trans hd (by decide)) ⟨hc, hs⟩ dX6_drop_25 h)) (Z_ne_F X dX6_drop_28 (by decide)))) (S_b1 X dX6_drop_31 dX6_drop_32 (by decide)) (S_b0 X dX6_drop_35)) (fun v0 st mm a b hd hc hs h => g_callS (st := st) X hT htr (M_X6_needState v0) lk_X6_needState st_X6_needState ml_X6_81 rfl (by rw [hR]; exact ⟨Nat.le_of_ble_eq_true rfl, Nat.le_of_ble_eq_true rfl⟩) (Nat.le_trans hd (by decide)) ⟨hc, hs⟩ dX6_drop_36 h))
  (SB_retI X C hr dX6_drop_52 (XE_3 (pB := pI) wR wR (L_aload_n (r := (some this)) 1 X dX6_drop_39 rfl rfl) (L_aload_n (r := changed_3) 0 X dX6_drop_40 rfl rfl) (XE_2 (pB := pR) wR (XE_1 (L_aload_n (r := changed_3) 0 X dX6_drop_41 rfl rfl) (O_gr (c := 1) (j := 2) X rfl inW0 (by decide) fl_X6_104 rfl dX6_drop_42)) (L_iload_n (x := day_) 3 X dX6_drop_45 rfl rfl) (fun v0 v1 st mm a b hd hc hs h => g_callVo (st := st) (cI := 5) X hT htr rfl (fun q => M_X4_withoutDate q v1) lk_X4_withoutDate im_X4_withoutDate se_X4_withoutDate ml_X6_127 rfl (by rw [hR]; exact ⟨Nat.le_of_ble_eq_true rfl, Nat.le_of_ble_eq_true rfl⟩) (Nat.le_trans hd (by decide)) ⟨hc, hs⟩ dX6_drop_46 h)) (fun v0 v1 v2 st mm a b hd hc hs h => g_callVo (st := st) (cI := 7) X hT htr rfl (fun q => M_X6_putVersion q v1 v2) lk_X6_putVersion im_X6_putVersion se_X6_putVersion ml_X6_116 rfl (by rw [hR]; exact ⟨Nat.le_of_ble_eq_true rfl, Nat.le_of_ble_eq_true rfl⟩) (Nat.le_trans hd (by decide)) ⟨hc, hs⟩ dX6_drop_49 h)))))) h (by rw [hR]; decide) (by rw [hR]; decide)
