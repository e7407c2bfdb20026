theorem dX6_dates_0 : decode cX6_dates 0 = .ok (.iload_n 1, 1) := by decide +kernel
theorem dX6_dates_1 : decode cX6_dates 1 = .ok (.invokestatic 72, 3) := by decide +kernel
theorem dX6_dates_4 : decode cX6_dates 4 = .ok (.aload_n 0, 1) := by decide +kernel
theorem dX6_dates_5 : decode cX6_dates 5 = .ok (.iload_n 2, 1) := by decide +kernel
theorem dX6_dates_6 : decode cX6_dates 6 = .ok (.invokevirtual 100, 3) := by decide +kernel
theorem dX6_dates_9 : decode cX6_dates 9 = .ok (.iload_n 1, 1) := by decide +kernel
theorem dX6_dates_10 : decode cX6_dates 10 = .ok (.invokevirtual 269, 3) := by decide +kernel
theorem dX6_dates_13 : decode cX6_dates 13 = .ok (.astore_n 3, 1) := by decide +kernel
theorem dX6_dates_14 : decode cX6_dates 14 = .ok (.aload_n 3, 1) := by decide +kernel
theorem dX6_dates_15 : decode cX6_dates 15 = .ok (.ifnonnull 7, 3) := by decide +kernel
theorem dX6_dates_18 : decode cX6_dates 18 = .ok (.iconst 0, 1) := by decide +kernel
theorem dX6_dates_19 : decode cX6_dates 19 = .ok (.goto 8, 3) := by decide +kernel
theorem dX6_dates_22 : decode cX6_dates 22 = .ok (.aload_n 3, 1) := by decide +kernel
theorem dX6_dates_23 : decode cX6_dates 23 = .ok (.getfield 278, 3) := by decide +kernel
theorem dX6_dates_26 : decode cX6_dates 26 = .ok (.arraylength, 1) := by decide +kernel
theorem dX6_dates_27 : decode cX6_dates 27 = .ok (.ireturn, 1) := by decide +kernel
theorem lk_X6_dates : LK yX6_dates cX6_dates 4 (some .int) 2 := ⟨qW_at 439 (by decide +kernel) rfl, qW_at 29 (by decide +kernel) rfl, by decide, by decide, by decide +kernel⟩
theorem im_X6_dates : Cond.instanceMethod yX6_dates ∈ qW := qW_at 437 (by decide +kernel) rfl
theorem se_X6_dates : Cond.selects RX6 yX6_dates yX6_dates ∈ qW := qW_at 438 (by decide +kernel) rfl
def F_X6_dates (this : Nat) (person_ : Int32) (meeting_ : Int32) : QX Int32 :=
  (xb (xb (xp person_) fun v1 => F_X6_needPerson v1) fun _ =>
  (xb (xb (xb (xp (some this)) fun v2 => xb (xp meeting_) fun v3 => xo 7 v2 fun q => F_X6_meetingNumbered q v3) fun v4 => xb (xp person_) fun v5 => xo 1 v4 fun q => F_X0_versionThere q v5) fun held_6 =>
  (xb (xb (xp held_6) fun v7 => xp (decide (v7 = none))) fun v10 => if v10 then (xp (0 : Int32)) else (xb (xb (xp held_6) fun v8 => xgr 5 11 v8) fun v9 => xlen v9))))
set_option maxRecDepth 100000 in
set_option maxHeartbeats 4000000 in
theorem M_X6_dates (this : Nat) (person_ : Int32) (meeting_ : Int32) : MM yX6_dates cX6_dates 4 (some .int) 7 102 2 12 encI [.ref this, .int person_, .int meeting_] (F_X6_dates this person_ meeting_) := by
  refine MM_of (env0 := [(0, va_rf (some this)), (1, .int person_), (2, .int meeting_)]) (by decide) (by exact Nat.le_of_ble_eq_true rfl) (by rfl) (fun k mm res X C hR hN hr hname h => ?_)
  have X : CX k cX6_dates RX6 := X
  have hT : TH k (fun e m' => res = (.error e, m')) := TH_of C
  have htr := C.2.2.2.1
  unfold F_X6_dates at h
  exact SB_go (T := fun e m' => res = (.error e, m')) (RET := fun v m' => res = (.ok v, m')) (SB_do (XE_1 (pB := pU)  (L_iload_n (x := person_) 1 X dX6_dates_0 rfl rfl) (fun v0 st mm a b hd hc hs h => g_callS (st := st) X hT htr (M_X6_needPerson v0) lk_X6_needPerson st_X6_needPerson ml_X6_72 rfl (by rw [hR]; exact ⟨Nat.le_of_ble_eq_true rfl, Nat.le_of_ble_eq_true rfl⟩) (Nat.le_trans hd (by decide)) ⟨hc, hs⟩ dX6_dates_1 h))
  (SB_let (XE_2 (pB := pR) wR (XE_2 (pB := pR) wR (L_aload_n (r := (some this)) 0 X dX6_dates_4 rfl rfl) (L_iload_n (x := meeting_) 2 X dX6_dates_5 rfl rfl) (fun v0 v1 st mm a b hd hc hs h => g_callVo (st := st) (cI := 7) X hT htr rfl (fun q => M_X6_meetingNumbered q v1) lk_X6_meetingNumbered im_X6_meetingNumbered se_X6_meetingNumbered ml_X6_100 rfl (by rw [hR]; exact ⟨Nat.le_of_ble_eq_true rfl, Nat.le_of_ble_eq_true rfl⟩) (Nat.le_trans hd (by decide)) ⟨hc, hs⟩ dX6_dates_6 h)) (L_iload_n (x := person_) 1 X dX6_dates_9 rfl rfl) (fun v0 v1 st mm a b hd hc hs h => g_callVo (st := st) (cI := 1) X hT htr rfl (fun q => M_X0_versionThere q v1) lk_X0_versionThere im_X0_versionThere se_X0_versionThere ml_X6_269 rfl (by rw [hR]; exact ⟨Nat.le_of_ble_eq_true rfl, Nat.le_of_ble_eq_true rfl⟩) (Nat.le_trans hd (by decide)) ⟨hc, hs⟩ dX6_dates_10 h)) (S_astore_n (ev := fun held_6 => [(3, va_rf held_6), (0, va_rf (some this)), (1, .int person_), (2, .int meeting_)]) X dX6_dates_13 rfl (by rw [hN]; decide) (fun _ => rfl)) fun held_6 =>
  (SB_retI X C hr dX6_dates_27 (XE_tern (CE_1 (L_aload_n (r := held_6) 0 X dX6_dates_14 rfl rfl) (N_eq_F X dX6_dates_15 (by decide))) (L_iconst (v := 0) X dX6_dates_18 (by decide)) (S_goto X dX6_dates_19 (by decide)) (XE_1 (XE_1 (L_aload_n (r := held_6) 0 X dX6_dates_22 rfl rfl) (O_gr (c := 5) (j := 11) X rfl inW4 (by decide) fl_X6_278 rfl dX6_dates_23)) (O_len X dX6_dates_26)))))) h (by rw [hR]; decide) (by rw [hR]; decide)
theorem dX6_dateAt_0 : decode cX6_dateAt 0 = .ok (.iload_n 1, 1) := by decide +kernel
theorem dX6_dateAt_1 : decode cX6_dateAt 1 = .ok (.invokestatic 72, 3) := by decide +kernel
theorem dX6_dateAt_4 : decode cX6_dateAt 4 = .ok (.aload_n 0, 1) := by decide +kernel
theorem dX6_dateAt_5 : decode cX6_dateAt 5 = .ok (.iload_n 2, 1) := by decide +kernel
theorem dX6_dateAt_6 : decode cX6_dateAt 6 = .ok (.invokevirtual 100, 3) := by decide +kernel
theorem dX6_dateAt_9 : decode cX6_dateAt 9 = .ok (.iload_n 1, 1) := by decide +kernel
theorem dX6_dateAt_10 : decode cX6_dateAt 10 = .ok (.invokevirtual 269, 3) := by decide +kernel
theorem dX6_dateAt_13 : decode cX6_dateAt 13 = .ok (.astore 4, 2) := by decide +kernel
theorem dX6_dateAt_15 : decode cX6_dateAt 15 = .ok (.aload 4, 2) := by decide +kernel
theorem dX6_dateAt_17 : decode cX6_dateAt 17 = .ok (.ifnull 17, 3) := by decide +kernel
theorem dX6_dateAt_20 : decode cX6_dateAt 20 = .ok (.iload_n 3, 1) := by decide +kernel
theorem dX6_dateAt_21 : decode cX6_dateAt 21 = .ok (.ifCond .lt 13, 3) := by decide +kernel
theorem dX6_dateAt_24 : decode cX6_dateAt 24 = .ok (.iload_n 3, 1) := by decide +kernel
theorem dX6_dateAt_25 : decode cX6_dateAt 25 = .ok (.aload 4, 2) := by decide +kernel
theorem dX6_dateAt_27 : decode cX6_dateAt 27 = .ok (.getfield 278, 3) := by decide +kernel
theorem dX6_dateAt_30 : decode cX6_dateAt 30 = .ok (.arraylength, 1) := by decide +kernel
theorem dX6_dateAt_31 : decode cX6_dateAt 31 = .ok (.if_icmp .lt 11, 3) := by decide +kernel
theorem dX6_dateAt_34 : decode cX6_dateAt 34 = .ok (.new 281, 3) := by decide +kernel
theorem dX6_dateAt_37 : decode cX6_dateAt 37 = .ok (.dup, 1) := by decide +kernel
theorem dX6_dateAt_38 : decode cX6_dateAt 38 = .ok (.invokespecial 283, 3) := by decide +kernel
theorem dX6_dateAt_41 : decode cX6_dateAt 41 = .ok (.athrow, 1) := by decide +kernel
theorem dX6_dateAt_42 : decode cX6_dateAt 42 = .ok (.aload 4, 2) := by decide +kernel
theorem dX6_dateAt_44 : decode cX6_dateAt 44 = .ok (.getfield 278, 3) := by decide +kernel
theorem dX6_dateAt_47 : decode cX6_dateAt 47 = .ok (.iload_n 3, 1) := by decide +kernel
theorem dX6_dateAt_48 : decode cX6_dateAt 48 = .ok (.iaload, 1) := by decide +kernel
theorem dX6_dateAt_49 : decode cX6_dateAt 49 = .ok (.ireturn, 1) := by decide +kernel
theorem lk_X6_dateAt : LK yX6_dateAt cX6_dateAt 5 (some .int) 3 := ⟨qW_at 446 (by decide +kernel) rfl, qW_at 29 (by decide +kernel) rfl, by decide, by decide, by decide +kernel⟩
theorem im_X6_dateAt : Cond.instanceMethod yX6_dateAt ∈ qW := qW_at 444 (by decide +kernel) rfl
theorem se_X6_dateAt : Cond.selects RX6 yX6_dateAt yX6_dateAt ∈ qW := qW_at 445 (by decide +kernel) rfl
def F_X6_dateAt (this : Nat) (person_ : Int32) (meeting_ : Int32) (place_ : Int32) : QX Int32 :=
  (xb (xb (xp person_) fun v1 => F_X6_needPerson v1) fun _ =>
  (xb (xb (xb (xp (some this)) fun v2 => xb (xp meeting_) fun v3 => xo 7 v2 fun q => F_X6_meetingNumbered q v3) fun v4 => xb (xp person_) fun v5 => xo 1 v4 fun q => F_X0_versionThere q v5) fun held_6 =>
  (xb (xb (xb (xb (xp held_6) fun v7 => xp (decide (v7 = none))) fun v9 => if v9 then xp true else (xb (xp place_) fun v8 => xp (decide (v8 < 0)))) fun v14 => if v14 then xp true else (xb (xp place_) fun v10 => xb (xb (xb (xp held_6) fun v11 => xgr 5 11 v11) fun v12 => xlen v12) fun v13 => xp (decide (v13 ≤ v10)))) fun v18 => if v18 then (xth 1) else
  (xb (xb (xp held_6) fun v15 => xgr 5 11 v15) fun v16 => xb (xp place_) fun v17 => xai 0 v16 v17))))
set_option maxRecDepth 100000 in
set_option maxHeartbeats 4000000 in
theorem M_X6_dateAt (this : Nat) (person_ : Int32) (meeting_ : Int32) (place_ : Int32) : MM yX6_dateAt cX6_dateAt 5 (some .int) 7 102 3 18 encI [.ref this, .int person_, .int meeting_, .int place_] (F_X6_dateAt this person_ meeting_ place_) := by
  refine MM_of (env0 := [(0, va_rf (some this)), (1, .int person_), (2, .int meeting_), (3, .int place_)]) (by decide) (by exact Nat.le_of_ble_eq_true rfl) (by rfl) (fun k mm res X C hR hN hr hname h => ?_)
  have X : CX k cX6_dateAt RX6 := X
  have hT : TH k (fun e m' => res = (.error e, m')) := TH_of C
  have htr := C.2.2.2.1
  unfold F_X6_dateAt at h
  exact SB_go (T := fun e m' => res = (.error e, m')) (RET := fun v m' => res = (.ok v, m')) (SB_do (XE_1 (pB := pU)  (L_iload_n (x := person_) 1 X dX6_dateAt_0 rfl rfl) (fun v0 st mm a b hd hc hs h => g_callS (st := st) X hT htr (M_X6_needPerson v0) lk_X6_needPerson st_X6_needPerson ml_X6_72 rfl (by rw [hR]; exact ⟨Nat.le_of_ble_eq_true rfl, Nat.le_of_ble_eq_true rfl⟩) (Nat.le_trans hd (by decide)) ⟨hc, hs⟩ dX6_dateAt_1 h))
  (SB_let (XE_2 (pB := pR) wR (XE_2 (pB := pR) wR (L_aload_n (r := (some this)) 0 X dX6_dateAt_4 rfl rfl) (L_iload_n (x := meeting_) 2 X dX6_dateAt_5 rfl rfl) (fun v0 v1 st mm a b hd hc hs h => g_callVo (st := st) (cI := 7) X hT htr rfl (fun q => M_X6_meetingNumbered q v1) lk_X6_meetingNumbered im_X6_meetingNumbered se_X6_meetingNumbered ml_X6_100 rfl (by rw [hR]; exact ⟨Nat.le_of_ble_eq_true rfl, Nat.le_of_ble_eq_true rfl⟩) (Nat.le_trans hd (by decide)) ⟨hc, hs⟩ dX6_dateAt_6 h)) (L_iload_n (x := person_) 1 X dX6_dateAt_9 rfl rfl) (fun v0 v1 st mm a b hd hc hs h => g_callVo (st := st) (cI := 1) X hT htr rfl (fun q => M_X0_versionThere q v1) lk_X0_versionThere im_X0_versionThere se_X0_versionThere ml_X6_269 rfl (by rw [hR]; exact ⟨Nat.le_of_ble_eq_true rfl, Nat.le_of_ble_eq_true rfl⟩) (Nat.le_trans hd (by decide)) ⟨hc, hs⟩ dX6_dateAt_10 h)) (S_astore (ev := fun held_6 => [(4, va_rf held_6), (0, va_rf (some this)), (1, .int person_), (2, .int meeting_), (3, .int place_)]) X dX6_dateAt_13 (by rw [hN]; decide) (fun _ => rfl)) fun held_6 =>
  (SB_if (CE_or (CE_or (CE_1 (L_aload (r := held_6) 0 X dX6_dateAt_15 rfl) (N_eq_T X dX6_dateAt_17 (by decide))) (CE_1 (L_iload_n (x := place_) 4 X dX6_dateAt_20 rfl rfl) (Z_lt_T X dX6_dateAt_21 (by decide)))) (CE_2 wI (L_iload_n (x := place_) 4 X dX6_dateAt_24 rfl rfl) (XE_1 (XE_1 (L_aload (r := held_6) 0 X dX6_dateAt_25 rfl) (O_gr (c := 5) (j := 11) X rfl inW4 (by decide) fl_X6_278 rfl dX6_dateAt_27)) (O_len X dX6_dateAt_30)) (C_ge_F X dX6_dateAt_31 (by decide))))
  (SB_throw fun mm a b ha hb h => g_throw (e := 1) X C (by decide) tk_X6_281_283 ti_1 ta_X6_281_283 tg_X6_281_283 (by rw [hR]; exact Nat.le_of_ble_eq_true rfl) (by rw [hR]; exact Nat.le_of_ble_eq_true rfl) ha hb dX6_dateAt_34 dX6_dateAt_37 dX6_dateAt_38 dX6_dateAt_41 h)
  (SB_retI X C hr dX6_dateAt_49 (XE_2 wR (XE_1 (L_aload (r := held_6) 0 X dX6_dateAt_42 rfl) (O_gr (c := 5) (j := 11) X rfl inW4 (by decide) fl_X6_278 rfl dX6_dateAt_44)) (L_iload_n (x := place_) 4 X dX6_dateAt_47 rfl rfl) (O_ai X dX6_dateAt_48)))))) h (by rw [hR]; decide) (by rw [hR]; decide)
theorem dX6_versionWithDate_0 : decode cX6_versionWithDate 0 = .ok (.aload_n 1, 1) := by decide +kernel
theorem dX6_versionWithDate_1 : decode cX6_versionWithDate 1 = .ok (.iload_n 0, 1) := by decide +kernel
theorem dX6_versionWithDate_2 : decode cX6_versionWithDate 2 = .ok (.invokevirtual 269, 3) := by decide +kernel
theorem dX6_versionWithDate_5 : decode cX6_versionWithDate 5 = .ok (.astore_n 3, 1) := by decide +kernel
theorem dX6_versionWithDate_6 : decode cX6_versionWithDate 6 = .ok (.aload_n 3, 1) := by decide +kernel
theorem dX6_versionWithDate_7 : decode cX6_versionWithDate 7 = .ok (.ifnull 11, 3) := by decide +kernel
theorem dX6_versionWithDate_10 : decode cX6_versionWithDate 10 = .ok (.aload_n 3, 1) := by decide +kernel
theorem dX6_versionWithDate_11 : decode cX6_versionWithDate 11 = .ok (.iload_n 2, 1) := by decide +kernel
theorem dX6_versionWithDate_12 : decode cX6_versionWithDate 12 = .ok (.invokevirtual 123, 3) := by decide +kernel
theorem dX6_versionWithDate_15 : decode cX6_versionWithDate 15 = .ok (.ifCond .ne 11, 3) := by decide +kernel
theorem dX6_versionWithDate_18 : decode cX6_versionWithDate 18 = .ok (.new 354, 3) := by decide +kernel
theorem dX6_versionWithDate_21 : decode cX6_versionWithDate 21 = .ok (.dup, 1) := by decide +kernel
theorem dX6_versionWithDate_22 : decode cX6_versionWithDate 22 = .ok (.invokespecial 356, 3) := by decide +kernel
theorem dX6_versionWithDate_25 : decode cX6_versionWithDate 25 = .ok (.athrow, 1) := by decide +kernel
theorem dX6_versionWithDate_26 : decode cX6_versionWithDate 26 = .ok (.aload_n 3, 1) := by decide +kernel
theorem dX6_versionWithDate_27 : decode cX6_versionWithDate 27 = .ok (.areturn, 1) := by decide +kernel
theorem lk_X6_versionWithDate : LK yX6_versionWithDate cX6_versionWithDate 4 (some (.object "MeetingServer$Version")) 3 := ⟨qW_at 460 (by decide +kernel) rfl, qW_at 29 (by decide +kernel) rfl, by decide, by decide, by decide +kernel⟩
theorem st_X6_versionWithDate : Cond.static yX6_versionWithDate ∈ qW := qW_at 459 (by decide +kernel) rfl
def F_X6_versionWithDate (person_ : Int32) (meeting_ : Option Nat) (day_ : Int32) : QX (Option Nat) :=
  (xb (xb (xp meeting_) fun v1 => xb (xp person_) fun v2 => xo 1 v1 fun q => F_X0_versionThere q v2) fun held_3 =>
  (xb (xb (xb (xp held_3) fun v4 => xp (decide (v4 = none))) fun v9 => if v9 then xp true else (xb (xb (xb (xp held_3) fun v5 => xb (xp day_) fun v6 => xo 5 v5 fun q => F_X4_isDate q v6) fun v7 => xp (decide (¬ v7 = 0))) fun v8 => xp (!v8))) fun v10 => if v10 then (xth 3) else
  (xp held_3)))
set_option maxRecDepth 100000 in
set_option maxHeartbeats 4000000 in
theorem M_X6_versionWithDate (person_ : Int32) (meeting_ : Option Nat) (day_ : Int32) : MM yX6_versionWithDate cX6_versionWithDate 4 (some (.object "MeetingServer$Version")) 6 81 1 6 encR [.int person_, va_rf meeting_, .int day_] (F_X6_versionWithDate person_ meeting_ day_) := by
  refine MM_of (env0 := [(0, .int person_), (1, va_rf meeting_), (2, .int day_)]) (by decide) (by cases meeting_ <;> exact Nat.le_of_ble_eq_true rfl) (by cases meeting_ <;> rfl) (fun k mm res X C hR hN hr hname h => ?_)
  have X : CX k cX6_versionWithDate RX6 := X
  have hT : TH k (fun e m' => res = (.error e, m')) := TH_of C
  have htr := C.2.2.2.1
  unfold F_X6_versionWithDate at h
  exact SB_go (T := fun e m' => res = (.error e, m')) (RET := fun v m' => res = (.ok v, m')) (SB_let (XE_2 (pB := pR) wR (L_aload_n (r := meeting_) 1 X dX6_versionWithDate_0 rfl rfl) (L_iload_n (x := person_) 0 X dX6_versionWithDate_1 rfl rfl) (fun v0 v1 st mm a b hd hc hs h => g_callVo (st := st) (cI := 1) X hT htr rfl (fun q => M_X0_versionThere q v1) lk_X0_versionThere im_X0_versionThere se_X0_versionThere ml_X6_269 rfl (by rw [hR]; exact ⟨Nat.le_of_ble_eq_true rfl, Nat.le_of_ble_eq_true rfl⟩) (Nat.le_trans hd (by decide)) ⟨hc, hs⟩ dX6_versionWithDate_2 h)) (S_astore_n (ev := fun held_3 => [(3, va_rf held_3), (0, .int person_), (1, va_rf meeting_), (2, .int day_)]) X dX6_versionWithDate_5 rfl (by rw [hN]; decide) (fun _ => rfl)) fun held_3 =>
  (SB_if (CE_or (CE_1 (L_aload_n (r := held_3) 0 X dX6_versionWithDate_6 rfl rfl) (N_eq_T X dX6_versionWithDate_7 (by decide))) (CE_not (CE_1 (XE_2 (pB := pI) wR (L_aload_n (r := held_3) 0 X dX6_versionWithDate_10 rfl rfl) (L_iload_n (x := day_) 3 X dX6_versionWithDate_11 rfl rfl) (fun v0 v1 st mm a b hd hc hs h => g_callVo (st := st) (cI := 5) X hT htr rfl (fun q => M_X4_isDate q v1) lk_X4_isDate im_X4_isDate se_X4_isDate ml_X6_123 rfl (by rw [hR]; exact ⟨Nat.le_of_ble_eq_true rfl, Nat.le_of_ble_eq_true rfl⟩) (Nat.le_trans hd (by decide)) ⟨hc, hs⟩ dX6_versionWithDate_12 h)) (Z_ne_T X dX6_versionWithDate_15 (by decide)))))
  (SB_throw fun mm a b ha hb h => g_throw (e := 3) X C (by decide) tk_X6_354_356 ti_3 ta_X6_354_356 tg_X6_354_356 (by rw [hR]; exact Nat.le_of_ble_eq_true rfl) (by rw [hR]; exact Nat.le_of_ble_eq_true rfl) ha hb dX6_versionWithDate_18 dX6_versionWithDate_21 dX6_versionWithDate_22 dX6_versionWithDate_25 h)
  (SB_retR X C hr (Or.inl ⟨_, rfl⟩) dX6_versionWithDate_27 (L_aload_n (r := held_3) 0 X dX6_versionWithDate_26 rfl rfl)))) h (by rw [hR]; decide) (by rw [hR]; decide)
theorem dX6_begin_0 : decode cX6_begin 0 = .ok (.iload_n 1, 1) := by decide +kernel
theorem dX6_begin_1 : decode cX6_begin 1 = .ok (.invokestatic 72, 3) := by decide +kernel
theorem dX6_begin_4 : decode cX6_begin 4 = .ok (.aload_n 0, 1) := by decide +kernel
theorem dX6_begin_5 : decode cX6_begin 5 = .ok (.iload_n 2, 1) := by decide +kernel
theorem dX6_begin_6 : decode cX6_begin 6 = .ok (.invokevirtual 100, 3) := by decide +kernel
theorem dX6_begin_9 : decode cX6_begin 9 = .ok (.astore 4, 2) := by decide +kernel
theorem dX6_begin_11 : decode cX6_begin 11 = .ok (.iload_n 3, 1) := by decide +kernel
theorem dX6_begin_12 : decode cX6_begin 12 = .ok (.invokestatic 55, 3) := by decide +kernel
theorem dX6_begin_15 : decode cX6_begin 15 = .ok (.iload_n 1, 1) := by decide +kernel
theorem dX6_begin_16 : decode cX6_begin 16 = .ok (.aload 4, 2) := by decide +kernel
theorem dX6_begin_18 : decode cX6_begin 18 = .ok (.iload_n 3, 1) := by decide +kernel
theorem dX6_begin_19 : decode cX6_begin 19 = .ok (.invokestatic 284, 3) := by decide +kernel
theorem dX6_begin_22 : decode cX6_begin 22 = .ok (.iload_n 3, 1) := by decide +kernel
theorem dX6_begin_23 : decode cX6_begin 23 = .ok (.invokevirtual 288, 3) := by decide +kernel
theorem dX6_begin_26 : decode cX6_begin 26 = .ok (.ireturn, 1) := by decide +kernel
theorem lk_X6_begin : LK yX6_begin cX6_begin 5 (some .int) 3 := ⟨qW_at 453 (by decide +kernel) rfl, qW_at 29 (by decide +kernel) rfl, by decide, by decide, by decide +kernel⟩
theorem im_X6_begin : Cond.instanceMethod yX6_begin ∈ qW := qW_at 451 (by decide +kernel) rfl
theorem se_X6_begin : Cond.selects RX6 yX6_begin yX6_begin ∈ qW := qW_at 452 (by decide +kernel) rfl
def F_X6_begin (this : Nat) (person_ : Int32) (meeting_ : Int32) (day_ : Int32) : QX Int32 :=
  (xb (xb (xp person_) fun v1 => F_X6_needPerson v1) fun _ =>
  (xb (xb (xp (some this)) fun v2 => xb (xp meeting_) fun v3 => xo 7 v2 fun q => F_X6_meetingNumbered q v3) fun asked_4 =>
  (xb (xb (xp day_) fun v5 => F_X6_needDay v5) fun _ =>
  (xb (xb (xp person_) fun v6 => xb (xp asked_4) fun v7 => xb (xp day_) fun v8 => F_X6_versionWithDate v6 v7 v8) fun v9 => xb (xp day_) fun v10 => xo 5 v9 fun q => F_X4_beginOf q v10))))
set_option maxRecDepth 100000 in
set_option maxHeartbeats 4000000 in
theorem M_X6_begin (this : Nat) (person_ : Int32) (meeting_ : Int32) (day_ : Int32) : MM yX6_begin cX6_begin 5 (some .int) 8 121 4 24 encI [.ref this, .int person_, .int meeting_, .int day_] (F_X6_begin this person_ meeting_ day_) := by
  refine MM_of (env0 := [(0, va_rf (some this)), (1, .int person_), (2, .int meeting_), (3, .int day_)]) (by decide) (by exact Nat.le_of_ble_eq_true rfl) (by rfl) (fun k mm res X C hR hN hr hname h => ?_)
  have X : CX k cX6_begin RX6 := X
  have hT : TH k (fun e m' => res = (.error e, m')) := TH_of C
  have htr := C.2.2.2.1
  unfold F_X6_begin at h
  exact SB_go (T := fun e m' => res = (.error e, m')) (RET := fun v m' => res = (.ok v, m')) (SB_do (XE_1 (pB := pU)  (L_iload_n (x := person_) 1 X dX6_begin_0 rfl rfl) (fun v0 st mm a b hd hc hs h => g_callS (st := st) X hT htr (M_X6_needPerson v0) lk_X6_needPerson st_X6_needPerson ml_X6_72 rfl (by rw [hR]; exact ⟨Nat.le_of_ble_eq_true rfl, Nat.le_of_ble_eq_true rfl⟩) (Nat.le_trans hd (by decide)) ⟨hc, hs⟩ dX6_begin_1 h))
  (SB_let (XE_2 (pB := pR) wR (L_aload_n (r := (some this)) 0 X dX6_begin_4 rfl rfl) (L_iload_n (x := meeting_) 2 X dX6_begin_5 rfl rfl) (fun v0 v1 st mm a b hd hc hs h => g_callVo (st := st) (cI := 7) X hT htr rfl (fun q => M_X6_meetingNumbered q v1) lk_X6_meetingNumbered im_X6_meetingNumbered se_X6_meetingNumbered ml_X6_100 rfl (by rw [hR]; exact ⟨Nat.le_of_ble_eq_true rfl, Nat.le_of_ble_eq_true rfl⟩) (Nat.le_trans hd (by decide)) ⟨hc, hs⟩ dX6_begin_6 h)) (S_astore (ev := fun asked_4 => [(4, va_rf asked_4), (0, va_rf (some this)), (1, .int person_), (2, .int meeting_), (3, .int day_)]) X dX6_begin_9 (by rw [hN]; decide) (fun _ => rfl)) fun asked_4 =>
  (SB_do (XE_1 (pB := pU)  (L_iload_n (x := day_) 4 X dX6_begin_11 rfl rfl) (fun v0 st mm a b hd hc hs h => g_callS (st := st) X hT htr (M_X6_needDay v0) lk_X6_needDay st_X6_needDay ml_X6_55 rfl (by rw [hR]; exact ⟨Nat.le_of_ble_eq_true rfl, Nat.le_of_ble_eq_true rfl⟩) (Nat.le_trans hd (by decide)) ⟨hc, hs⟩ dX6_begin_12 h))
  (SB_retI X C hr dX6_begin_26 (XE_2 (pB := pI) wR (XE_3 (pB := pR) wI wR (L_iload_n (x := person_) 2 X dX6_begin_15 rfl rfl) (L_aload (r := asked_4) 0 X dX6_begin_16 rfl) (L_iload_n (x := day_) 4 X dX6_begin_18 rfl rfl) (fun v0 v1 v2 st mm a b hd hc hs h => g_callS (st := st) X hT htr (M_X6_versionWithDate v0 v1 v2) lk_X6_versionWithDate st_X6_versionWithDate ml_X6_284 rfl (by rw [hR]; exact ⟨Nat.le_of_ble_eq_true rfl, Nat.le_of_ble_eq_true rfl⟩) (Nat.le_trans hd (by decide)) ⟨hc, hs⟩ dX6_begin_19 h)) (L_iload_n (x := day_) 4 X dX6_begin_22 rfl rfl) (fun v0 v1 st mm a b hd hc hs h => g_callVo (st := st) (cI := 5) X hT htr rfl (fun q => M_X4_beginOf q v1) lk_X4_beginOf im_X4_beginOf se_X4_beginOf ml_X6_288 rfl (by rw [hR]; exact ⟨Nat.le_of_ble_eq_true rfl, Nat.le_of_ble_eq_true rfl⟩) (Nat.le_trans hd (by decide)) ⟨hc, hs⟩ dX6_begin_23 h)))))) h (by rw [hR]; decide) (by rw [hR]; decide)
theorem dX6_ownAnswer_0 : decode cX6_ownAnswer 0 = .ok (.iload_n 1, 1) := by decide +kernel
theorem dX6_ownAnswer_1 : decode cX6_ownAnswer 1 = .ok (.invokestatic 72, 3) := by decide +kernel
theorem dX6_ownAnswer_4 : decode cX6_ownAnswer 4 = .ok (.aload_n 0, 1) := by decide +kernel
theorem dX6_ownAnswer_5 : decode cX6_ownAnswer 5 = .ok (.iload_n 2, 1) := by decide +kernel
theorem dX6_ownAnswer_6 : decode cX6_ownAnswer 6 = .ok (.invokevirtual 100, 3) := by decide +kernel
theorem dX6_ownAnswer_9 : decode cX6_ownAnswer 9 = .ok (.astore 4, 2) := by decide +kernel
theorem dX6_ownAnswer_11 : decode cX6_ownAnswer 11 = .ok (.iload_n 3, 1) := by decide +kernel
theorem dX6_ownAnswer_12 : decode cX6_ownAnswer 12 = .ok (.invokestatic 55, 3) := by decide +kernel
theorem dX6_ownAnswer_15 : decode cX6_ownAnswer 15 = .ok (.aload 4, 2) := by decide +kernel
theorem dX6_ownAnswer_17 : decode cX6_ownAnswer 17 = .ok (.iload_n 1, 1) := by decide +kernel
theorem dX6_ownAnswer_18 : decode cX6_ownAnswer 18 = .ok (.iload_n 1, 1) := by decide +kernel
theorem dX6_ownAnswer_19 : decode cX6_ownAnswer 19 = .ok (.aload 4, 2) := by decide +kernel
theorem dX6_ownAnswer_21 : decode cX6_ownAnswer 21 = .ok (.iload_n 3, 1) := by decide +kernel
theorem dX6_ownAnswer_22 : decode cX6_ownAnswer 22 = .ok (.invokestatic 284, 3) := by decide +kernel
theorem dX6_ownAnswer_25 : decode cX6_ownAnswer 25 = .ok (.iload_n 3, 1) := by decide +kernel
theorem dX6_ownAnswer_26 : decode cX6_ownAnswer 26 = .ok (.invokevirtual 291, 3) := by decide +kernel
theorem dX6_ownAnswer_29 : decode cX6_ownAnswer 29 = .ok (.ireturn, 1) := by decide +kernel
theorem lk_X6_ownAnswer : LK yX6_ownAnswer cX6_ownAnswer 5 (some .int) 3 := ⟨qW_at 471 (by decide +kernel) rfl, qW_at 29 (by decide +kernel) rfl, by decide, by decide, by decide +kernel⟩
theorem im_X6_ownAnswer : Cond.instanceMethod yX6_ownAnswer ∈ qW := qW_at 469 (by decide +kernel) rfl
theorem se_X6_ownAnswer : Cond.selects RX6 yX6_ownAnswer yX6_ownAnswer ∈ qW := qW_at 470 (by decide +kernel) rfl
def F_X6_ownAnswer (this : Nat) (person_ : Int32) (meeting_ : Int32) (day_ : Int32) : QX Int32 :=
  (xb (xb (xp person_) fun v1 => F_X6_needPerson v1) fun _ =>
  (xb (xb (xp (some this)) fun v2 => xb (xp meeting_) fun v3 => xo 7 v2 fun q => F_X6_meetingNumbered q v3) fun asked_4 =>
  (xb (xb (xp day_) fun v5 => F_X6_needDay v5) fun _ =>
  (xb (xp asked_4) fun v9 => xb (xp person_) fun v10 => xb (xb (xp person_) fun v6 => xb (xp asked_4) fun v7 => xb (xp day_) fun v8 => F_X6_versionWithDate v6 v7 v8) fun v11 => xb (xp day_) fun v12 => xo 1 v9 fun q => F_X0_answerAsOwn q v10 v11 v12))))
set_option maxRecDepth 100000 in
set_option maxHeartbeats 4000000 in
theorem M_X6_ownAnswer (this : Nat) (person_ : Int32) (meeting_ : Int32) (day_ : Int32) : MM yX6_ownAnswer cX6_ownAnswer 5 (some .int) 8 121 4 24 encI [.ref this, .int person_, .int meeting_, .int day_] (F_X6_ownAnswer this person_ meeting_ day_) := by
  refine MM_of (env0 := [(0, va_rf (some this)), (1, .int person_), (2, .int meeting_), (3, .int day_)]) (by decide) (by exact Nat.le_of_ble_eq_true rfl) (by rfl) (fun k mm res X C hR hN hr hname h => ?_)
  have X : CX k cX6_ownAnswer RX6 := X
  have hT : TH k (fun e m' => res = (.error e, m')) := TH_of C
  have htr := C.2.2.2.1
  unfold F_X6_ownAnswer at h
  exact SB_go (T := fun e m' => res = (.error e, m')) (RET := fun v m' => res = (.ok v, m')) (SB_do (XE_1 (pB := pU)  (L_iload_n (x := person_) 1 X dX6_ownAnswer_0 rfl rfl) (fun v0 st mm a b hd hc hs h => g_callS (st := st) X hT htr (M_X6_needPerson v0) lk_X6_needPerson st_X6_needPerson ml_X6_72 rfl (by rw [hR]; exact ⟨Nat.le_of_ble_eq_true rfl, Nat.le_of_ble_eq_true rfl⟩) (Nat.le_trans hd (by decide)) ⟨hc, hs⟩ dX6_ownAnswer_1 h))
  (SB_let (XE_2 (pB := pR) wR (L_aload_n (r := (some this)) 0 X dX6_ownAnswer_4 rfl rfl) (L_iload_n (x := meeting_) 2 X dX6_ownAnswer_5 rfl rfl) (fun v0 v1 st mm a b hd hc hs h => g_callVo (st := st) (cI := 7) X hT htr rfl (fun q => M_X6_meetingNumbered q v1) lk_X6_meetingNumbered im_X6_meetingNumbered se_X6_meetingNumbered ml_X6_100 rfl (by rw [hR]; exact ⟨Nat.le_of_ble_eq_true rfl, Nat.le_of_ble_eq_true rfl⟩) (Nat.le_trans hd (by decide)) ⟨hc, hs⟩ dX6_ownAnswer_6 h)) (S_astore (ev := fun asked_4 => [(4, va_rf asked_4), (0, va_rf (some this)), (1, .int person_), (2, .int meeting_), (3, .int day_)]) X dX6_ownAnswer_9 (by rw [hN]; decide) (fun _ => rfl)) fun asked_4 =>
  (SB_do (XE_1 (pB := pU)  (L_iload_n (x := day_) 4 X dX6_ownAnswer_11 rfl rfl) (fun v0 st mm a b hd hc hs h => g_callS (st := st) X hT htr (M_X6_needDay v0) lk_X6_needDay st_X6_needDay ml_X6_55 rfl (by rw [hR]; exact ⟨Nat.le_of_ble_eq_true rfl, Nat.le_of_ble_eq_true rfl⟩) (Nat.le_trans hd (by decide)) ⟨hc, hs⟩ dX6_ownAnswer_12 h))
  (SB_retI X C hr dX6_ownAnswer_29 (XE_4 (pB := pI) wR wI wR (L_aload (r := asked_4) 0 X dX6_ownAnswer_15 rfl) (L_iload_n (x := person_) 2 X dX6_ownAnswer_17 rfl rfl) (XE_3 (pB := pR) wI wR (L_iload_n (x := person_) 2 X dX6_ownAnswer_18 rfl rfl) (L_aload (r := asked_4) 0 X dX6_ownAnswer_19 rfl) (L_iload_n (x := day_) 4 X dX6_ownAnswer_21 rfl rfl) (fun v0 v1 v2 st mm a b hd hc hs h => g_callS (st := st) X hT htr (M_X6_versionWithDate v0 v1 v2) lk_X6_versionWithDate st_X6_versionWithDate ml_X6_284 rfl (by rw [hR]; exact ⟨Nat.le_of_ble_eq_true rfl, Nat.le_of_ble_eq_true rfl⟩) (Nat.le_trans hd (by decide)) ⟨hc, hs⟩ dX6_ownAnswer_22 h)) (L_iload_n (x := day_) 4 X dX6_ownAnswer_25 rfl rfl) (fun v0 v1 v2 v3 st mm a b hd hc hs h => g_callVo (st := st) (cI := 1) X hT htr rfl (fun q => M_X0_answerAsOwn q v1 v2 v3) lk_X0_answerAsOwn im_X0_answerAsOwn se_X0_answerAsOwn ml_X6_291 rfl (by rw [hR]; exact ⟨Nat.le_of_ble_eq_true rfl, Nat.le_of_ble_eq_true rfl⟩) (Nat.le_trans hd (by decide)) ⟨hc, hs⟩ dX6_ownAnswer_26 h)))))) h (by rw [hR]; decide) (by rw [hR]; decide)
theorem dX6_isAsked_0 : decode cX6_isAsked 0 = .ok (.aload_n 0, 1) := by decide +kernel
theorem dX6_isAsked_1 : decode cX6_isAsked 1 = .ok (.iload_n 1, 1) := by decide +kernel
theorem dX6_isAsked_2 : decode cX6_isAsked 2 = .ok (.invokevirtual 100, 3) := by decide +kernel
theorem dX6_isAsked_5 : decode cX6_isAsked 5 = .ok (.astore_n 3, 1) := by decide +kernel
theorem dX6_isAsked_6 : decode cX6_isAsked 6 = .ok (.iload_n 2, 1) := by decide +kernel
theorem dX6_isAsked_7 : decode cX6_isAsked 7 = .ok (.invokestatic 72, 3) := by decide +kernel
theorem dX6_isAsked_10 : decode cX6_isAsked 10 = .ok (.aload_n 0, 1) := by decide +kernel
theorem dX6_isAsked_11 : decode cX6_isAsked 11 = .ok (.aload_n 3, 1) := by decide +kernel
theorem dX6_isAsked_12 : decode cX6_isAsked 12 = .ok (.invokevirtual 167, 3) := by decide +kernel
theorem dX6_isAsked_15 : decode cX6_isAsked 15 = .ok (.iload_n 2, 1) := by decide +kernel
theorem dX6_isAsked_16 : decode cX6_isAsked 16 = .ok (.invokestatic 153, 3) := by decide +kernel
theorem dX6_isAsked_19 : decode cX6_isAsked 19 = .ok (.ireturn, 1) := by decide +kernel
theorem lk_X6_isAsked : LK yX6_isAsked cX6_isAsked 4 (some .boolean) 2 := ⟨qW_at 496 (by decide +kernel) rfl, qW_at 29 (by decide +kernel) rfl, by decide, by decide, by decide +kernel⟩
theorem im_X6_isAsked : Cond.instanceMethod yX6_isAsked ∈ qW := qW_at 494 (by decide +kernel) rfl
theorem se_X6_isAsked : Cond.selects RX6 yX6_isAsked yX6_isAsked ∈ qW := qW_at 495 (by decide +kernel) rfl
def F_X6_isAsked (this : Nat) (meeting_ : Int32) (person_ : Int32) : QX Int32 :=
  (xb (xb (xp (some this)) fun v1 => xb (xp meeting_) fun v2 => xo 7 v1 fun q => F_X6_meetingNumbered q v2) fun asked_3 =>
  (xb (xb (xp person_) fun v4 => F_X6_needPerson v4) fun _ =>
  (xb (xb (xb (xp (some this)) fun v5 => xb (xp asked_3) fun v6 => xo 7 v5 fun q => F_X6_askedOf q v6) fun v7 => xb (xp person_) fun v8 => F_X6_isIn v7 v8) xz)))
set_option maxRecDepth 100000 in
set_option maxHeartbeats 4000000 in
theorem M_X6_isAsked (this : Nat) (meeting_ : Int32) (person_ : Int32) : MM yX6_isAsked cX6_isAsked 4 (some .boolean) 7 102 2 12 encI [.ref this, .int meeting_, .int person_] (F_X6_isAsked this meeting_ person_) := by
  refine MM_of (env0 := [(0, va_rf (some this)), (1, .int meeting_), (2, .int person_)]) (by decide) (by exact Nat.le_of_ble_eq_true rfl) (by rfl) (fun k mm res X C hR hN hr hname h => ?_)
  have X : CX k cX6_isAsked RX6 := X
  have hT : TH k (fun e m' => res = (.error e, m')) := TH_of C
  have htr := C.2.2.2.1
  unfold F_X6_isAsked at h
  exact SB_go (T := fun e m' => res = (.error e, m')) (RET := fun v m' => res = (.ok v, m')) (SB_let (XE_2 (pB := pR) wR (L_aload_n (r := (some this)) 0 X dX6_isAsked_0 rfl rfl) (L_iload_n (x := meeting_) 1 X dX6_isAsked_1 rfl rfl) (fun v0 v1 st mm a b hd hc hs h => g_callVo (st := st) (cI := 7) X hT htr rfl (fun q => M_X6_meetingNumbered q v1) lk_X6_meetingNumbered im_X6_meetingNumbered se_X6_meetingNumbered ml_X6_100 rfl (by rw [hR]; exact ⟨Nat.le_of_ble_eq_true rfl, Nat.le_of_ble_eq_true rfl⟩) (Nat.le_trans hd (by decide)) ⟨hc, hs⟩ dX6_isAsked_2 h)) (S_astore_n (ev := fun asked_3 => [(3, va_rf asked_3), (0, va_rf (some this)), (1, .int meeting_), (2, .int person_)]) X dX6_isAsked_5 rfl (by rw [hN]; decide) (fun _ => rfl)) fun asked_3 =>
  (SB_do (XE_1 (pB := pU)  (L_iload_n (x := person_) 3 X dX6_isAsked_6 rfl rfl) (fun v0 st mm a b hd hc hs h => g_callS (st := st) X hT htr (M_X6_needPerson v0) lk_X6_needPerson st_X6_needPerson ml_X6_72 rfl (by rw [hR]; exact ⟨Nat.le_of_ble_eq_true rfl, Nat.le_of_ble_eq_true rfl⟩) (Nat.le_trans hd (by decide)) ⟨hc, hs⟩ dX6_isAsked_7 h))
  (SB_retZ X C hr dX6_isAsked_19 (XE_2 (pB := pI) wI (XE_2 (pB := pI) wR (L_aload_n (r := (some this)) 1 X dX6_isAsked_10 rfl rfl) (L_aload_n (r := asked_3) 0 X dX6_isAsked_11 rfl rfl) (fun v0 v1 st mm a b hd hc hs h => g_callVo (st := st) (cI := 7) X hT htr rfl (fun q => M_X6_askedOf q v1) lk_X6_askedOf im_X6_askedOf se_X6_askedOf ml_X6_167 rfl (by rw [hR]; exact ⟨Nat.le_of_ble_eq_true rfl, Nat.le_of_ble_eq_true rfl⟩) (Nat.le_trans hd (by decide)) ⟨hc, hs⟩ dX6_isAsked_12 h)) (L_iload_n (x := person_) 3 X dX6_isAsked_15 rfl rfl) (fun v0 v1 st mm a b hd hc hs h => g_callS (st := st) X hT htr (M_X6_isIn v0 v1) lk_X6_isIn st_X6_isIn ml_X6_153 rfl (by rw [hR]; exact ⟨Nat.le_of_ble_eq_true rfl, Nat.le_of_ble_eq_true rfl⟩) (Nat.le_trans hd (by decide)) ⟨hc, hs⟩ dX6_isAsked_16 h))))) h (by rw [hR]; decide) (by rw [hR]; decide)
theorem dX6_answerOf_0 : decode cX6_answerOf 0 = .ok (.aload_n 0, 1) := by decide +kernel
theorem dX6_answerOf_1 : decode cX6_answerOf 1 = .ok (.iload_n 1, 1) := by decide +kernel
theorem dX6_answerOf_2 : decode cX6_answerOf 2 = .ok (.invokevirtual 100, 3) := by decide +kernel
theorem dX6_answerOf_5 : decode cX6_answerOf 5 = .ok (.astore 4, 2) := by decide +kernel
theorem dX6_answerOf_7 : decode cX6_answerOf 7 = .ok (.iload_n 2, 1) := by decide +kernel
theorem dX6_answerOf_8 : decode cX6_answerOf 8 = .ok (.invokestatic 72, 3) := by decide +kernel
theorem dX6_answerOf_11 : decode cX6_answerOf 11 = .ok (.iload_n 3, 1) := by decide +kernel
theorem dX6_answerOf_12 : decode cX6_answerOf 12 = .ok (.invokestatic 55, 3) := by decide +kernel
theorem dX6_answerOf_15 : decode cX6_answerOf 15 = .ok (.aload 4, 2) := by decide +kernel
theorem dX6_answerOf_17 : decode cX6_answerOf 17 = .ok (.getfield 104, 3) := by decide +kernel
theorem dX6_answerOf_20 : decode cX6_answerOf 20 = .ok (.iload_n 3, 1) := by decide +kernel
theorem dX6_answerOf_21 : decode cX6_answerOf 21 = .ok (.invokevirtual 123, 3) := by decide +kernel
theorem dX6_answerOf_24 : decode cX6_answerOf 24 = .ok (.invokestatic 81, 3) := by decide +kernel
theorem dX6_answerOf_27 : decode cX6_answerOf 27 = .ok (.aload_n 0, 1) := by decide +kernel
theorem dX6_answerOf_28 : decode cX6_answerOf 28 = .ok (.aload 4, 2) := by decide +kernel
theorem dX6_answerOf_30 : decode cX6_answerOf 30 = .ok (.invokevirtual 167, 3) := by decide +kernel
theorem dX6_answerOf_33 : decode cX6_answerOf 33 = .ok (.iload_n 2, 1) := by decide +kernel
theorem dX6_answerOf_34 : decode cX6_answerOf 34 = .ok (.invokestatic 153, 3) := by decide +kernel
theorem dX6_answerOf_37 : decode cX6_answerOf 37 = .ok (.ifCond .eq 13, 3) := by decide +kernel
theorem dX6_answerOf_40 : decode cX6_answerOf 40 = .ok (.aload 4, 2) := by decide +kernel
theorem dX6_answerOf_42 : decode cX6_answerOf 42 = .ok (.iload_n 2, 1) := by decide +kernel
theorem dX6_answerOf_43 : decode cX6_answerOf 43 = .ok (.iload_n 3, 1) := by decide +kernel
theorem dX6_answerOf_44 : decode cX6_answerOf 44 = .ok (.invokevirtual 295, 3) := by decide +kernel
theorem dX6_answerOf_47 : decode cX6_answerOf 47 = .ok (.goto 4, 3) := by decide +kernel
theorem dX6_answerOf_50 : decode cX6_answerOf 50 = .ok (.iconst (-1), 1) := by decide +kernel
theorem dX6_answerOf_51 : decode cX6_answerOf 51 = .ok (.ireturn, 1) := by decide +kernel
theorem lk_X6_answerOf : LK yX6_answerOf cX6_answerOf 5 (some .int) 3 := ⟨qW_at 515 (by decide +kernel) rfl, qW_at 29 (by decide +kernel) rfl, by decide, by decide, by decide +kernel⟩
theorem im_X6_answerOf : Cond.instanceMethod yX6_answerOf ∈ qW := qW_at 513 (by decide +kernel) rfl
theorem se_X6_answerOf : Cond.selects RX6 yX6_answerOf yX6_answerOf ∈ qW := qW_at 514 (by decide +kernel) rfl
def F_X6_answerOf (this : Nat) (meeting_ : Int32) (person_ : Int32) (day_ : Int32) : QX Int32 :=
  (xb (xb (xp (some this)) fun v1 => xb (xp meeting_) fun v2 => xo 7 v1 fun q => F_X6_meetingNumbered q v2) fun asked_3 =>
  (xb (xb (xp person_) fun v4 => F_X6_needPerson v4) fun _ =>
  (xb (xb (xp day_) fun v5 => F_X6_needDay v5) fun _ =>
  (xb (xb (xb (xb (xp asked_3) fun v6 => xgr 1 2 v6) fun v7 => xb (xp day_) fun v8 => xo 5 v7 fun q => F_X4_isDate q v8) fun v9 => F_X6_needState v9) fun _ =>
  (xb (xb (xb (xb (xp (some this)) fun v10 => xb (xp asked_3) fun v11 => xo 7 v10 fun q => F_X6_askedOf q v11) fun v12 => xb (xp person_) fun v13 => F_X6_isIn v12 v13) fun v14 => xp (decide (¬ v14 = 0))) fun v18 => if v18 then (xb (xp asked_3) fun v15 => xb (xp person_) fun v16 => xb (xp day_) fun v17 => xo 1 v15 fun q => F_X0_answerAsKnown q v16 v17) else (xp (-1 : Int32)))))))
set_option maxRecDepth 100000 in
set_option maxHeartbeats 4000000 in
theorem M_X6_answerOf (this : Nat) (meeting_ : Int32) (person_ : Int32) (day_ : Int32) : MM yX6_answerOf cX6_answerOf 5 (some .int) 8 121 4 24 encI [.ref this, .int meeting_, .int person_, .int day_] (F_X6_answerOf this meeting_ person_ day_) := by
  refine MM_of (env0 := [(0, va_rf (some this)), (1, .int meeting_), (2, .int person_), (3, .int day_)]) (by decide) (by exact Nat.le_of_ble_eq_true rfl) (by rfl) (fun k mm res X C hR hN hr hname h => ?_)
  have X : CX k cX6_answerOf RX6 := X
  have hT : TH k (fun e m' => res = (.error e, m')) := TH_of C
  have htr := C.2.2.2.1
  unfold F_X6_answerOf at h
  exact SB_go (T := fun e m' => res = (.error e, m')) (RET := fun v m' => res = (.ok v, m')) (SB_let (XE_2 (pB := pR) wR (L_aload_n (r := (some this)) 0 X dX6_answerOf_0 rfl rfl) (L_iload_n (x := meeting_) 1 X dX6_answerOf_1 rfl rfl) (fun v0 v1 st mm a b hd hc hs h => g_callVo (st := st) (cI := 7) X hT htr rfl (fun q => M_X6_meetingNumbered q v1) lk_X6_meetingNumbered im_X6_meetingNumbered se_X6_meetingNumbered ml_X6_100 rfl (by rw [hR]; exact ⟨Nat.le_of_ble_eq_true rfl, Nat.le_of_ble_eq_true rfl⟩) (Nat.le_trans hd (by decide)) ⟨hc, hs⟩ dX6_answerOf_2 h)) (S_astore (ev := fun asked_3 => [(4, va_rf asked_3), (0, va_rf (some this)), (1, .int meeting_), (2, .int person_), (3, .int day_)]) X dX6_answerOf_5 (by rw [hN]; decide) (fun _ => rfl)) fun asked_3 =>
  (SB_do (XE_1 (pB := pU)  (L_iload_n (x := person_) 3 X dX6_answerOf_7 rfl rfl) (fun v0 st mm a b hd hc hs h => g_callS (st := st) X hT htr (M_X6_needPerson v0) lk_X6_needPerson st_X6_needPerson ml_X6_72 rfl (by rw [hR]; exact ⟨Nat.le_of_ble_eq_true rfl, Nat.le_of_ble_eq_true rfl⟩) (Nat.le_trans hd (by decide)) ⟨hc, hs⟩ dX6_answerOf_8 h))
  (SB_do (XE_1 (pB := pU)  (L_iload_n (x := day_) 4 X dX6_answerOf_11 rfl rfl) (fun v0 st mm a b hd hc hs h => g_callS (st := st) X hT htr (M_X6_needDay v0) lk_X6_needDay st_X6_needDay ml_X6_55 rfl (by rw [hR]; exact ⟨Nat.le_of_ble_eq_true rfl, Nat.le_of_ble_eq_true rfl⟩) (Nat.le_trans hd (by decide)) ⟨hc, hs⟩ dX6_answerOf_12 h))
  (SB_do (XE_1 (pB := pU)  (XE_2 (pB := pI) wR (XE_1 (L_aload (r := asked_3) 0 X dX6_answerOf_15 rfl) (O_gr (c := 1) (j := 2) X rfl inW0 (by decide) fl_X6_104 rfl dX6_answerOf_17)) (L_iload_n (x := day_) 4 X dX6_answerOf_20 rfl rfl) (fun v0 v1 st mm a b hd hc hs h => g_callVo (st := st) (cI := 5) X hT htr rfl (fun q => M_X4_isDate q v1) lk_X4_isDate im_X4_isDate se_X4_isDate ml_X6_123 rfl (by rw [hR]; exact ⟨Nat.le_of_ble_eq_true rfl, Nat.le_of_ble_eq_true rfl⟩) (Nat.le_trans hd (by decide)) ⟨hc, hs⟩ dX6_answerOf_21 h)) (fun v0 st mm a b hd hc hs h => g_callS (st := st) X hT htr (M_X6_needState v0) lk_X6_needState st_X6_needState ml_X6_81 rfl (by rw [hR]; exact ⟨Nat.le_of_ble_eq_true rfl, Nat.le_of_ble_eq_true rfl⟩) (Nat.le_trans hd (by decide)) ⟨hc, hs⟩ dX6_answerOf_24 h))
  (SB_retI X C hr dX6_answerOf_51 (XE_tern (CE_1 (XE_2 (pB := pI) wI (XE_2 (pB := pI) wR (L_aload_n (r := (some this)) 1 X dX6_answerOf_27 rfl rfl) (L_aload (r := asked_3) 0 X dX6_answerOf_28 rfl) (fun v0 v1 st mm a b hd hc hs h => g_callVo (st := st) (cI := 7) X hT htr rfl (fun q => M_X6_askedOf q v1) lk_X6_askedOf im_X6_askedOf se_X6_askedOf ml_X6_167 rfl (by rw [hR]; exact ⟨Nat.le_of_ble_eq_true rfl, Nat.le_of_ble_eq_true rfl⟩) (Nat.le_trans hd (by decide)) ⟨hc, hs⟩ dX6_answerOf_30 h)) (L_iload_n (x := person_) 3 X dX6_answerOf_33 rfl rfl) (fun v0 v1 st mm a b hd hc hs h => g_callS (st := st) X hT htr (M_X6_isIn v0 v1) lk_X6_isIn st_X6_isIn ml_X6_153 rfl (by rw [hR]; exact ⟨Nat.le_of_ble_eq_true rfl, Nat.le_of_ble_eq_true rfl⟩) (Nat.le_trans hd (by decide)) ⟨hc, hs⟩ dX6_answerOf_34 h)) (Z_ne_F X dX6_answerOf_37 (by decide))) (XE_3 (pB := pI) wR wI (L_aload (r := asked_3) 0 X dX6_answerOf_40 rfl) (L_iload_n (x := person_) 3 X dX6_answerOf_42 rfl rfl) (L_iload_n (x := day_) 4 X dX6_answerOf_43 rfl rfl) (fun v0 v1 v2 st mm a b hd hc hs h => g_callVo (st := st) (cI := 1) X hT htr rfl (fun q => M_X0_answerAsKnown q v1 v2) lk_X0_answerAsKnown im_X0_answerAsKnown se_X0_answerAsKnown ml_X6_295 rfl (by rw [hR]; exact ⟨Nat.le_of_ble_eq_true rfl, Nat.le_of_ble_eq_true rfl⟩) (Nat.le_trans hd (by decide)) ⟨hc, hs⟩ dX6_answerOf_44 h)) (S_goto X dX6_answerOf_47 (by decide)) (L_iconst (v := (-1)) X dX6_answerOf_50 (by decide)))))))) h (by rw [hR]; decide) (by rw [hR]; decide)
theorem dX6_newestInLog_0 : decode cX6_newestInLog 0 = .ok (.aconst_null, 1) := by decide +kernel
theorem dX6_newestInLog_1 : decode cX6_newestInLog 1 = .ok (.astore 4, 2) := by decide +kernel
theorem dX6_newestInLog_3 : decode cX6_newestInLog 3 = .ok (.iconst 0, 1) := by decide +kernel
theorem dX6_newestInLog_4 : decode cX6_newestInLog 4 = .ok (.istore 5, 2) := by decide +kernel
theorem dX6_newestInLog_6 : decode cX6_newestInLog 6 = .ok (.iload 5, 2) := by decide +kernel
theorem dX6_newestInLog_8 : decode cX6_newestInLog 8 = .ok (.aload_n 0, 1) := by decide +kernel
theorem dX6_newestInLog_9 : decode cX6_newestInLog 9 = .ok (.getfield 245, 3) := by decide +kernel
theorem dX6_newestInLog_12 : decode cX6_newestInLog 12 = .ok (.if_icmp .ge 76, 3) := by decide +kernel
theorem dX6_newestInLog_15 : decode cX6_newestInLog 15 = .ok (.aload_n 0, 1) := by decide +kernel
theorem dX6_newestInLog_16 : decode cX6_newestInLog 16 = .ok (.getfield 29, 3) := by decide +kernel
theorem dX6_newestInLog_19 : decode cX6_newestInLog 19 = .ok (.iload 5, 2) := by decide +kernel
theorem dX6_newestInLog_21 : decode cX6_newestInLog 21 = .ok (.aaload, 1) := by decide +kernel
theorem dX6_newestInLog_22 : decode cX6_newestInLog 22 = .ok (.astore 6, 2) := by decide +kernel
theorem dX6_newestInLog_24 : decode cX6_newestInLog 24 = .ok (.aload 6, 2) := by decide +kernel
theorem dX6_newestInLog_26 : decode cX6_newestInLog 26 = .ok (.getfield 236, 3) := by decide +kernel
theorem dX6_newestInLog_29 : decode cX6_newestInLog 29 = .ok (.iconst 1, 1) := by decide +kernel
theorem dX6_newestInLog_30 : decode cX6_newestInLog 30 = .ok (.if_icmp .ne 52, 3) := by decide +kernel
theorem dX6_newestInLog_33 : decode cX6_newestInLog 33 = .ok (.aload 6, 2) := by decide +kernel
theorem dX6_newestInLog_35 : decode cX6_newestInLog 35 = .ok (.getfield 233, 3) := by decide +kernel
theorem dX6_newestInLog_38 : decode cX6_newestInLog 38 = .ok (.ifCond .eq 44, 3) := by decide +kernel
theorem dX6_newestInLog_41 : decode cX6_newestInLog 41 = .ok (.aload 6, 2) := by decide +kernel
theorem dX6_newestInLog_43 : decode cX6_newestInLog 43 = .ok (.getfield 197, 3) := by decide +kernel
theorem dX6_newestInLog_46 : decode cX6_newestInLog 46 = .ok (.aload_n 1, 1) := by decide +kernel
theorem dX6_newestInLog_47 : decode cX6_newestInLog 47 = .ok (.if_acmp .ne 35, 3) := by decide +kernel
theorem dX6_newestInLog_50 : decode cX6_newestInLog 50 = .ok (.aload 6, 2) := by decide +kernel
theorem dX6_newestInLog_52 : decode cX6_newestInLog 52 = .ok (.getfield 378, 3) := by decide +kernel
theorem dX6_newestInLog_55 : decode cX6_newestInLog 55 = .ok (.iload_n 2, 1) := by decide +kernel
theorem dX6_newestInLog_56 : decode cX6_newestInLog 56 = .ok (.if_icmp .ne 26, 3) := by decide +kernel
theorem dX6_newestInLog_59 : decode cX6_newestInLog 59 = .ok (.aload 6, 2) := by decide +kernel
theorem dX6_newestInLog_61 : decode cX6_newestInLog 61 = .ok (.getfield 201, 3) := by decide +kernel
theorem dX6_newestInLog_64 : decode cX6_newestInLog 64 = .ok (.iload_n 3, 1) := by decide +kernel
theorem dX6_newestInLog_65 : decode cX6_newestInLog 65 = .ok (.if_icmp .ne 17, 3) := by decide +kernel
theorem dX6_newestInLog_68 : decode cX6_newestInLog 68 = .ok (.aload 6, 2) := by decide +kernel
theorem dX6_newestInLog_70 : decode cX6_newestInLog 70 = .ok (.aload 4, 2) := by decide +kernel
theorem dX6_newestInLog_72 : decode cX6_newestInLog 72 = .ok (.invokevirtual 402, 3) := by decide +kernel
theorem dX6_newestInLog_75 : decode cX6_newestInLog 75 = .ok (.ifCond .eq 7, 3) := by decide +kernel
theorem dX6_newestInLog_78 : decode cX6_newestInLog 78 = .ok (.aload 6, 2) := by decide +kernel
theorem dX6_newestInLog_80 : decode cX6_newestInLog 80 = .ok (.astore 4, 2) := by decide +kernel
theorem dX6_newestInLog_82 : decode cX6_newestInLog 82 = .ok (.iinc 5 1, 3) := by decide +kernel
theorem dX6_newestInLog_85 : decode cX6_newestInLog 85 = .ok (.goto (-79), 3) := by decide +kernel
theorem dX6_newestInLog_88 : decode cX6_newestInLog 88 = .ok (.aload 4, 2) := by decide +kernel
theorem dX6_newestInLog_90 : decode cX6_newestInLog 90 = .ok (.areturn, 1) := by decide +kernel
theorem lk_X6_newestInLog : LK yX6_newestInLog cX6_newestInLog 7 (some (.object "MeetingServer$Message")) 3 := ⟨qW_at 534 (by decide +kernel) rfl, qW_at 29 (by decide +kernel) rfl, by decide, by decide, by decide +kernel⟩
theorem im_X6_newestInLog : Cond.instanceMethod yX6_newestInLog ∈ qW := qW_at 533 (by decide +kernel) rfl
theorem se_X6_newestInLog : Cond.selects RX6 yX6_newestInLog yX6_newestInLog ∈ qW := qW_at 10 (by decide +kernel) rfl
def F_X6_newestInLog (this : Nat) (meeting_ : Option Nat) (person_ : Int32) (day_ : Int32) : QX (Option Nat) :=
  (xb (xp none) fun newest_1 =>
  (xb (xp (0 : Int32)) fun number_2 =>
  (xb (xl 2000 (fun (s3 : Option Nat × Int32) => (xb (xp s3.2) fun v4 => xb (xb (xp (some this)) fun v5 => xgi 7 5 v5) fun v6 => xp (decide (v4 < v6)))) (fun (s3 : Option Nat × Int32) =>
  (xb (xb (xb (xp (some this)) fun v7 => xgr 7 3 v7) fun v8 => xb (xp s3.2) fun v9 => xar 2 v8 v9) fun message_10 =>
  (xb (xb (xb (xb (xb (xb (xb (xb (xb (xp message_10) fun v11 => xgi 2 0 v11) fun v12 => xb (xp (1 : Int32)) fun v13 => xp (decide (v12 = v13))) fun v16 => if v16 then (xb (xb (xp message_10) fun v14 => xgi 2 10 v14) fun v15 => xp (decide (¬ v15 = 0))) else xp false) fun v20 => if v20 then (xb (xb (xp message_10) fun v17 => xgr 2 1 v17) fun v18 => xb (xp meeting_) fun v19 => xp (decide (v18 = v19))) else xp false) fun v24 => if v24 then (xb (xb (xp message_10) fun v21 => xgi 2 2 v21) fun v22 => xb (xp person_) fun v23 => xp (decide (v22 = v23))) else xp false) fun v28 => if v28 then (xb (xb (xp message_10) fun v25 => xgi 2 5 v25) fun v26 => xb (xp day_) fun v27 => xp (decide (v26 = v27))) else xp false) fun v32 => if v32 then (xb (xb (xp message_10) fun v29 => xb (xp s3.1) fun v30 => xo 2 v29 fun q => F_X1_isNewerThan q v30) fun v31 => xp (decide (¬ v31 = 0))) else xp false) fun v34 => if v34 then (xb (xp message_10) fun newest_33 =>
  (xp newest_33)) else (xp s3.1)) fun s35 =>
  (xp (s35, (s3.2 + 1)))))) (newest_1, number_2)) fun s36 =>
  (xp s36.1))))
set_option maxRecDepth 100000 in
set_option maxHeartbeats 4000000 in
theorem M_X6_newestInLog (this : Nat) (meeting_ : Option Nat) (person_ : Int32) (day_ : Int32) : MM yX6_newestInLog cX6_newestInLog 7 (some (.object "MeetingServer$Message")) 1 21 0 0 encR [.ref this, va_rf meeting_, .int person_, .int day_] (F_X6_newestInLog this meeting_ person_ day_) := by
  refine MM_of (env0 := [(0, va_rf (some this)), (1, va_rf meeting_), (2, .int person_), (3, .int day_)]) (by decide) (by cases meeting_ <;> exact Nat.le_of_ble_eq_true rfl) (by cases meeting_ <;> rfl) (fun k mm res X C hR hN hr hname h => ?_)
  have X : CX k cX6_newestInLog RX6 := X
  have hT : TH k (fun e m' => res = (.error e, m')) := TH_of C
  have htr := C.2.2.2.1
  unfold F_X6_newestInLog at h
  exact SB_go (T := fun e m' => res = (.error e, m')) (RET := fun v m' => res = (.ok v, m')) (SB_let (L_null X dX6_newestInLog_0) (S_astore (ev := fun newest_1 => [(4, va_rf newest_1), (0, va_rf (some this)), (1, va_rf meeting_), (2, .int person_), (3, .int day_)]) X dX6_newestInLog_1 (by rw [hN]; decide) (fun _ => rfl)) fun newest_1 =>
  (SB_let (L_iconst (v := 0) X dX6_newestInLog_3 (by decide)) (S_istore (ev := fun number_2 => [(5, .int number_2), (4, va_rf newest_1), (0, va_rf (some this)), (1, va_rf meeting_), (2, .int person_), (3, .int day_)]) X dX6_newestInLog_4 (by rw [hN]; decide) (fun _ => (by cases newest_1 <;> rfl))) fun number_2 =>
  (SB_seq (ST_loop (σ := Option Nat × Int32) (upd := (fun (s : Option Nat × Int32) => [(5, .int s.2), (4, va_rf s.1), (0, va_rf (some this)), (1, va_rf meeting_), (2, .int person_), (3, .int day_)])) (s0 := (newest_1, number_2)) (n := 2000) (fun mm a b h => GG_sub [0, 1, 2, 3, 4, 5] rfl h)
  (fun s3 => (CE_2 wI (L_iload (x := s3.2) 0 X dX6_newestInLog_6 rfl) (XE_1 (L_aload_n (r := (some this)) 2 X dX6_newestInLog_8 rfl rfl) (O_gi (c := 7) (j := 5) X rfl inW6 (by decide) fl_X6_245 rfl dX6_newestInLog_9)) (C_lt_F X dX6_newestInLog_12 (by decide))))
  (fun s3 => (ST_post (ST_let (XE_2 wR (XE_1 (L_aload_n (r := (some this)) 2 X dX6_newestInLog_15 rfl rfl) (O_gr (c := 7) (j := 3) X rfl inW6 (by decide) fl_X6_29 rfl dX6_newestInLog_16)) (L_iload (x := s3.2) 0 X dX6_newestInLog_19 rfl) (O_ar (c := 2) X (by decide) rfl dX6_newestInLog_21)) (S_astore (ev := fun message_10 => [(6, va_rf message_10), (5, .int s3.2), (4, va_rf s3.1), (0, va_rf (some this)), (1, va_rf meeting_), (2, .int person_), (3, .int day_)]) X dX6_newestInLog_22 (by rw [hN]; decide) (fun _ => rfl)) fun message_10 =>
  (ST_seq (ST_if (CE_and (CE_and (CE_and (CE_and (CE_and (CE_2 wI (XE_1 (L_aload (r := message_10) 0 X dX6_newestInLog_24 rfl) (O_gi (c := 2) (j := 0) X rfl inW1 (by decide) fl_X6_236 rfl dX6_newestInLog_26)) (L_iconst (v := 1) X dX6_newestInLog_29 (by decide)) (C_eq_F X dX6_newestInLog_30 (by decide))) (CE_1 (XE_1 (L_aload (r := message_10) 0 X dX6_newestInLog_33 rfl) (O_gi (c := 2) (j := 10) X rfl inW1 (by decide) fl_X6_233 rfl dX6_newestInLog_35)) (Z_ne_F X dX6_newestInLog_38 (by decide)))) (CE_2 wR (XE_1 (L_aload (r := message_10) 0 X dX6_newestInLog_41 rfl) (O_gr (c := 2) (j := 1) X rfl inW1 (by decide) fl_X6_197 rfl dX6_newestInLog_43)) (L_aload_n (r := meeting_) 4 X dX6_newestInLog_46 rfl rfl) (A_eq_F X dX6_newestInLog_47 (by decide)))) (CE_2 wI (XE_1 (L_aload (r := message_10) 0 X dX6_newestInLog_50 rfl) (O_gi (c := 2) (j := 2) X rfl inW1 (by decide) fl_X6_378 rfl dX6_newestInLog_52)) (L_iload_n (x := person_) 5 X dX6_newestInLog_55 rfl rfl) (C_eq_F X dX6_newestInLog_56 (by decide)))) (CE_2 wI (XE_1 (L_aload (r := message_10) 0 X dX6_newestInLog_59 rfl) (O_gi (c := 2) (j := 5) X rfl inW1 (by decide) fl_X6_201 rfl dX6_newestInLog_61)) (L_iload_n (x := day_) 6 X dX6_newestInLog_64 rfl rfl) (C_eq_F X dX6_newestInLog_65 (by decide)))) (CE_1 (XE_2 (pB := pI) wR (L_aload (r := message_10) 0 X dX6_newestInLog_68 rfl) (L_aload (r := s3.1) 2 X dX6_newestInLog_70 rfl) (fun v0 v1 st mm a b hd hc hs h => g_callVo (st := st) (cI := 2) X hT htr rfl (fun q => M_X1_isNewerThan q v1) lk_X1_isNewerThan im_X1_isNewerThan se_X1_isNewerThan ml_X6_402 rfl (by rw [hR]; exact ⟨Nat.le_of_ble_eq_true rfl, Nat.le_of_ble_eq_true rfl⟩) (Nat.le_trans hd (by decide)) ⟨hc, hs⟩ dX6_newestInLog_72 h)) (Z_ne_F X dX6_newestInLog_75 (by decide))))
  (ST_let (L_aload (r := message_10) 0 X dX6_newestInLog_78 rfl) (S_astore (ev := fun newest_33 => [(4, va_rf newest_33), (6, va_rf message_10), (5, .int s3.2), (0, va_rf (some this)), (1, va_rf meeting_), (2, .int person_), (3, .int day_)]) X dX6_newestInLog_80 (by rw [hN]; decide) (fun _ => rfl)) fun newest_33 =>
  (ST_done (upd := (fun (s : Option Nat) => [(6, va_rf message_10), (5, .int s3.2), (4, va_rf s), (0, va_rf (some this)), (1, va_rf meeting_), (2, .int person_), (3, .int day_)])) (s := newest_33) [1, 2, 0, 3, 4, 5, 6] rfl))
  (ST_done (upd := (fun (s : Option Nat) => [(6, va_rf message_10), (5, .int s3.2), (4, va_rf s), (0, va_rf (some this)), (1, va_rf meeting_), (2, .int person_), (3, .int day_)])) (s := s3.1) [0, 1, 2, 3, 4, 5, 6] rfl)) fun s35 =>
  (ST_pre (env' := [(5, .int (s3.2 + 1)), (6, va_rf message_10), (4, va_rf s35), (0, va_rf (some this)), (1, va_rf meeting_), (2, .int person_), (3, .int day_)]) (S_iinc 1 X dX6_newestInLog_82 rfl rfl (by rw [hN]; decide) (by cases s35 <;> rfl))
  (ST_done (upd := (fun (s : Option Nat × Int32) => [(5, .int s.2), (4, va_rf s.1), (0, va_rf (some this)), (1, va_rf meeting_), (2, .int person_), (3, .int day_)])) (s := (s35, (s3.2 + 1))) [0, 2, 3, 4, 5, 6] rfl)))) fun _ mm a b h => S_goto X dX6_newestInLog_85 (by decide) [] mm a b h))) fun s36 =>
  (SB_retR X C hr (Or.inl ⟨_, rfl⟩) dX6_newestInLog_90 (L_aload (r := s36.1) 1 X dX6_newestInLog_88 rfl))))) h (by rw [hR]; decide) (by rw [hR]; decide)
theorem dX6_askedByLog_0 : decode cX6_askedByLog 0 = .ok (.iconst 0, 1) := by decide +kernel
theorem dX6_askedByLog_1 : decode cX6_askedByLog 1 = .ok (.istore_n 2, 1) := by decide +kernel
theorem dX6_askedByLog_2 : decode cX6_askedByLog 2 = .ok (.iload_n 2, 1) := by decide +kernel
theorem dX6_askedByLog_3 : decode cX6_askedByLog 3 = .ok (.iconst 5, 1) := by decide +kernel
theorem dX6_askedByLog_4 : decode cX6_askedByLog 4 = .ok (.if_icmp .ge 25, 3) := by decide +kernel
theorem dX6_askedByLog_7 : decode cX6_askedByLog 7 = .ok (.aload_n 0, 1) := by decide +kernel
theorem dX6_askedByLog_8 : decode cX6_askedByLog 8 = .ok (.getfield 33, 3) := by decide +kernel
theorem dX6_askedByLog_11 : decode cX6_askedByLog 11 = .ok (.iload_n 2, 1) := by decide +kernel
theorem dX6_askedByLog_12 : decode cX6_askedByLog 12 = .ok (.aload_n 0, 1) := by decide +kernel
theorem dX6_askedByLog_13 : decode cX6_askedByLog 13 = .ok (.aload_n 1, 1) := by decide +kernel
theorem dX6_askedByLog_14 : decode cX6_askedByLog 14 = .ok (.iload_n 2, 1) := by decide +kernel
theorem dX6_askedByLog_15 : decode cX6_askedByLog 15 = .ok (.iconst (-1), 1) := by decide +kernel
theorem dX6_askedByLog_16 : decode cX6_askedByLog 16 = .ok (.invokevirtual 302, 3) := by decide +kernel
theorem dX6_askedByLog_19 : decode cX6_askedByLog 19 = .ok (.invokestatic 395, 3) := by decide +kernel
theorem dX6_askedByLog_22 : decode cX6_askedByLog 22 = .ok (.iastore, 1) := by decide +kernel
theorem dX6_askedByLog_23 : decode cX6_askedByLog 23 = .ok (.iinc 2 1, 3) := by decide +kernel
theorem dX6_askedByLog_26 : decode cX6_askedByLog 26 = .ok (.goto (-24), 3) := by decide +kernel
theorem dX6_askedByLog_29 : decode cX6_askedByLog 29 = .ok (.aload_n 1, 1) := by decide +kernel
theorem dX6_askedByLog_30 : decode cX6_askedByLog 30 = .ok (.aload_n 0, 1) := by decide +kernel
theorem dX6_askedByLog_31 : decode cX6_askedByLog 31 = .ok (.getfield 33, 3) := by decide +kernel
theorem dX6_askedByLog_34 : decode cX6_askedByLog 34 = .ok (.invokevirtual 398, 3) := by decide +kernel
theorem dX6_askedByLog_37 : decode cX6_askedByLog 37 = .ok (.ireturn, 1) := by decide +kernel
theorem lk_X6_askedByLog : LK yX6_askedByLog cX6_askedByLog 3 (some .int) 1 := ⟨qW_at 530 (by decide +kernel) rfl, qW_at 29 (by decide +kernel) rfl, by decide, by decide, by decide +kernel⟩
theorem im_X6_askedByLog : Cond.instanceMethod yX6_askedByLog ∈ qW := qW_at 529 (by decide +kernel) rfl
theorem se_X6_askedByLog : Cond.selects RX6 yX6_askedByLog yX6_askedByLog ∈ qW := qW_at 9 (by decide +kernel) rfl
def F_X6_askedByLog (this : Nat) (meeting_ : Option Nat) : QX Int32 :=
  (xb (xp (0 : Int32)) fun person_1 =>
  (xb (xl 2000 (fun (s2 : Int32) => (xb (xp s2) fun v3 => xb (xp (5 : Int32)) fun v4 => xp (decide (v3 < v4)))) (fun (s2 : Int32) =>
  (xb (xb (xb (xp (some this)) fun v5 => xgr 7 7 v5) fun v11 => xb (xp s2) fun v12 => xb (xb (xb (xp (some this)) fun v6 => xb (xp meeting_) fun v7 => xb (xp s2) fun v8 => xb (xp (-1 : Int32)) fun v9 => xo 7 v6 fun q => F_X6_newestInLog q v7 v8 v9) fun v10 => F_X1_delegateBy v10) fun v13 => xsai v11 v12 v13) fun _ =>
  (xp (s2 + 1)))) person_1) fun s14 =>
  (xb (xp meeting_) fun v16 => xb (xb (xp (some this)) fun v15 => xgr 7 7 v15) fun v17 => xo 1 v16 fun q => F_X0_askedIf q v17)))
set_option maxRecDepth 100000 in
set_option maxHeartbeats 4000000 in
theorem M_X6_askedByLog (this : Nat) (meeting_ : Option Nat) : MM yX6_askedByLog cX6_askedByLog 3 (some .int) 2 47 0 0 encI [.ref this, va_rf meeting_] (F_X6_askedByLog this meeting_) := by
  refine MM_of (env0 := [(0, va_rf (some this)), (1, va_rf meeting_)]) (by decide) (by cases meeting_ <;> exact Nat.le_of_ble_eq_true rfl) (by cases meeting_ <;> rfl) (fun k mm res X C hR hN hr hname h => ?_)
  have X : CX k cX6_askedByLog RX6 := X
  have hT : TH k (fun e m' => res = (.error e, m')) := TH_of C
  have htr := C.2.2.2.1
  unfold F_X6_askedByLog at h
  exact SB_go (T := fun e m' => res = (.error e, m')) (RET := fun v m' => res = (.ok v, m')) (SB_let (L_iconst (v := 0) X dX6_askedByLog_0 (by decide)) (S_istore_n (ev := fun person_1 => [(2, .int person_1), (0, va_rf (some this)), (1, va_rf meeting_)]) X dX6_askedByLog_1 rfl (by rw [hN]; decide) (fun _ => (by cases meeting_ <;> rfl))) fun person_1 =>
  (SB_seq (ST_loop (σ := Int32) (upd := (fun (s : Int32) => [(2, .int s), (0, va_rf (some this)), (1, va_rf meeting_)])) (s0 := person_1) (n := 2000) (fun mm a b h => GG_sub [0, 1, 2] rfl h)
  (fun s2 => (CE_2 wI (L_iload_n (x := s2) 0 X dX6_askedByLog_2 rfl rfl) (L_iconst (v := 5) X dX6_askedByLog_3 (by decide)) (C_lt_F X dX6_askedByLog_4 (by decide))))
  (fun s2 => (ST_post (ST_do (XE_3 wR wI (XE_1 (L_aload_n (r := (some this)) 1 X dX6_askedByLog_7 rfl rfl) (O_gr (c := 7) (j := 7) X rfl inW6 (by decide) fl_X6_33 rfl dX6_askedByLog_8)) (L_iload_n (x := s2) 0 X dX6_askedByLog_11 rfl rfl) (XE_1 (pB := pI)  (XE_4 (pB := pR) wR wR wI (L_aload_n (r := (some this)) 1 X dX6_askedByLog_12 rfl rfl) (L_aload_n (r := meeting_) 2 X dX6_askedByLog_13 rfl rfl) (L_iload_n (x := s2) 0 X dX6_askedByLog_14 rfl rfl) (L_iconst (v := (-1)) X dX6_askedByLog_15 (by decide)) (fun v0 v1 v2 v3 st mm a b hd hc hs h => g_callVo (st := st) (cI := 7) X hT htr rfl (fun q => M_X6_newestInLog q v1 v2 v3) lk_X6_newestInLog im_X6_newestInLog se_X6_newestInLog ml_X6_302 rfl (by rw [hR]; exact ⟨Nat.le_of_ble_eq_true rfl, Nat.le_of_ble_eq_true rfl⟩) (Nat.le_trans hd (by decide)) ⟨hc, hs⟩ dX6_askedByLog_16 h)) (fun v0 st mm a b hd hc hs h => g_callS (st := st) X hT htr (M_X1_delegateBy v0) lk_X1_delegateBy st_X1_delegateBy ml_X6_395 rfl (by rw [hR]; exact ⟨Nat.le_of_ble_eq_true rfl, Nat.le_of_ble_eq_true rfl⟩) (Nat.le_trans hd (by decide)) ⟨hc, hs⟩ dX6_askedByLog_19 h)) (O_sai X dX6_askedByLog_22))
  (ST_pre (env' := [(2, .int (s2 + 1)), (0, va_rf (some this)), (1, va_rf meeting_)]) (S_iinc 0 X dX6_askedByLog_23 rfl rfl (by rw [hN]; decide) (by cases meeting_ <;> rfl))
  (ST_done (upd := (fun (s : Int32) => [(2, .int s), (0, va_rf (some this)), (1, va_rf meeting_)])) (s := (s2 + 1)) [0, 1, 2] rfl))) fun _ mm a b h => S_goto X dX6_askedByLog_26 (by decide) [] mm a b h))) fun s14 =>
  (SB_retI X C hr dX6_askedByLog_37 (XE_2 (pB := pI) wR (L_aload_n (r := meeting_) 2 X dX6_askedByLog_29 rfl rfl) (XE_1 (L_aload_n (r := (some this)) 1 X dX6_askedByLog_30 rfl rfl) (O_gr (c := 7) (j := 7) X rfl inW6 (by decide) fl_X6_33 rfl dX6_askedByLog_31)) (fun v0 v1 st mm a b hd hc hs h => g_callVo (st := st) (cI := 1) X hT htr rfl (fun q => M_X0_askedIf q v1) lk_X0_askedIf im_X0_askedIf se_X0_askedIf ml_X6_398 rfl (by rw [hR]; exact ⟨Nat.le_of_ble_eq_true rfl, Nat.le_of_ble_eq_true rfl⟩) (Nat.le_trans hd (by decide)) ⟨hc, hs⟩ dX6_askedByLog_34 h))))) h (by rw [hR]; decide) (by rw [hR]; decide)
theorem dX6_answerByLog_0 : decode cX6_answerByLog 0 = .ok (.aload_n 0, 1) := by decide +kernel
theorem dX6_answerByLog_1 : decode cX6_answerByLog 1 = .ok (.iload_n 1, 1) := by decide +kernel
theorem dX6_answerByLog_2 : decode cX6_answerByLog 2 = .ok (.invokevirtual 100, 3) := by decide +kernel
theorem dX6_answerByLog_5 : decode cX6_answerByLog 5 = .ok (.astore 4, 2) := by decide +kernel
theorem dX6_answerByLog_7 : decode cX6_answerByLog 7 = .ok (.iload_n 2, 1) := by decide +kernel
theorem dX6_answerByLog_8 : decode cX6_answerByLog 8 = .ok (.invokestatic 72, 3) := by decide +kernel
theorem dX6_answerByLog_11 : decode cX6_answerByLog 11 = .ok (.iload_n 3, 1) := by decide +kernel
theorem dX6_answerByLog_12 : decode cX6_answerByLog 12 = .ok (.invokestatic 55, 3) := by decide +kernel
theorem dX6_answerByLog_15 : decode cX6_answerByLog 15 = .ok (.aload 4, 2) := by decide +kernel
theorem dX6_answerByLog_17 : decode cX6_answerByLog 17 = .ok (.getfield 104, 3) := by decide +kernel
theorem dX6_answerByLog_20 : decode cX6_answerByLog 20 = .ok (.iload_n 3, 1) := by decide +kernel
theorem dX6_answerByLog_21 : decode cX6_answerByLog 21 = .ok (.invokevirtual 123, 3) := by decide +kernel
theorem dX6_answerByLog_24 : decode cX6_answerByLog 24 = .ok (.invokestatic 81, 3) := by decide +kernel
theorem dX6_answerByLog_27 : decode cX6_answerByLog 27 = .ok (.aload_n 0, 1) := by decide +kernel
theorem dX6_answerByLog_28 : decode cX6_answerByLog 28 = .ok (.aload 4, 2) := by decide +kernel
theorem dX6_answerByLog_30 : decode cX6_answerByLog 30 = .ok (.invokevirtual 299, 3) := by decide +kernel
theorem dX6_answerByLog_33 : decode cX6_answerByLog 33 = .ok (.iload_n 2, 1) := by decide +kernel
theorem dX6_answerByLog_34 : decode cX6_answerByLog 34 = .ok (.invokestatic 153, 3) := by decide +kernel
theorem dX6_answerByLog_37 : decode cX6_answerByLog 37 = .ok (.ifCond .ne 5, 3) := by decide +kernel
theorem dX6_answerByLog_40 : decode cX6_answerByLog 40 = .ok (.iconst (-1), 1) := by decide +kernel
theorem dX6_answerByLog_41 : decode cX6_answerByLog 41 = .ok (.ireturn, 1) := by decide +kernel
theorem dX6_answerByLog_42 : decode cX6_answerByLog 42 = .ok (.aload_n 0, 1) := by decide +kernel
theorem dX6_answerByLog_43 : decode cX6_answerByLog 43 = .ok (.aload 4, 2) := by decide +kernel
theorem dX6_answerByLog_45 : decode cX6_answerByLog 45 = .ok (.iload_n 2, 1) := by decide +kernel
theorem dX6_answerByLog_46 : decode cX6_answerByLog 46 = .ok (.iload_n 3, 1) := by decide +kernel
theorem dX6_answerByLog_47 : decode cX6_answerByLog 47 = .ok (.invokevirtual 302, 3) := by decide +kernel
theorem dX6_answerByLog_50 : decode cX6_answerByLog 50 = .ok (.astore 5, 2) := by decide +kernel
theorem dX6_answerByLog_52 : decode cX6_answerByLog 52 = .ok (.aload_n 0, 1) := by decide +kernel
theorem dX6_answerByLog_53 : decode cX6_answerByLog 53 = .ok (.aload 4, 2) := by decide +kernel
theorem dX6_answerByLog_55 : decode cX6_answerByLog 55 = .ok (.iload_n 2, 1) := by decide +kernel
theorem dX6_answerByLog_56 : decode cX6_answerByLog 56 = .ok (.iconst (-1), 1) := by decide +kernel
theorem dX6_answerByLog_57 : decode cX6_answerByLog 57 = .ok (.invokevirtual 302, 3) := by decide +kernel
theorem dX6_answerByLog_60 : decode cX6_answerByLog 60 = .ok (.astore 6, 2) := by decide +kernel
theorem dX6_answerByLog_62 : decode cX6_answerByLog 62 = .ok (.aload 5, 2) := by decide +kernel
theorem dX6_answerByLog_64 : decode cX6_answerByLog 64 = .ok (.aload 6, 2) := by decide +kernel
theorem dX6_answerByLog_66 : decode cX6_answerByLog 66 = .ok (.aload 4, 2) := by decide +kernel
theorem dX6_answerByLog_68 : decode cX6_answerByLog 68 = .ok (.getfield 104, 3) := by decide +kernel
theorem dX6_answerByLog_71 : decode cX6_answerByLog 71 = .ok (.iload_n 3, 1) := by decide +kernel
theorem dX6_answerByLog_72 : decode cX6_answerByLog 72 = .ok (.invokevirtual 306, 3) := by decide +kernel
theorem dX6_answerByLog_75 : decode cX6_answerByLog 75 = .ok (.invokestatic 309, 3) := by decide +kernel
theorem dX6_answerByLog_78 : decode cX6_answerByLog 78 = .ok (.ireturn, 1) := by decide +kernel
theorem lk_X6_answerByLog : LK yX6_answerByLog cX6_answerByLog 7 (some .int) 3 := ⟨qW_at 526 (by decide +kernel) rfl, qW_at 29 (by decide +kernel) rfl, by decide, by decide, by decide +kernel⟩
theorem im_X6_answerByLog : Cond.instanceMethod yX6_answerByLog ∈ qW := qW_at 524 (by decide +kernel) rfl
theorem se_X6_answerByLog : Cond.selects RX6 yX6_answerByLog yX6_answerByLog ∈ qW := qW_at 525 (by decide +kernel) rfl
def F_X6_answerByLog (this : Nat) (meeting_ : Int32) (person_ : Int32) (day_ : Int32) : QX Int32 :=
  (xb (xb (xp (some this)) fun v1 => xb (xp meeting_) fun v2 => xo 7 v1 fun q => F_X6_meetingNumbered q v2) fun asked_3 =>
  (xb (xb (xp person_) fun v4 => F_X6_needPerson v4) fun _ =>
  (xb (xb (xp day_) fun v5 => F_X6_needDay v5) fun _ =>
  (xb (xb (xb (xb (xp asked_3) fun v6 => xgr 1 2 v6) fun v7 => xb (xp day_) fun v8 => xo 5 v7 fun q => F_X4_isDate q v8) fun v9 => F_X6_needState v9) fun _ =>
  (xb (xb (xb (xb (xb (xp (some this)) fun v10 => xb (xp asked_3) fun v11 => xo 7 v10 fun q => F_X6_askedByLog q v11) fun v12 => xb (xp person_) fun v13 => F_X6_isIn v12 v13) fun v14 => xp (decide (¬ v14 = 0))) fun v15 => xp (!v15)) fun v32 => if v32 then (xp (-1 : Int32)) else
  (xb (xb (xp (some this)) fun v16 => xb (xp asked_3) fun v17 => xb (xp person_) fun v18 => xb (xp day_) fun v19 => xo 7 v16 fun q => F_X6_newestInLog q v17 v18 v19) fun forDay_20 =>
  (xb (xb (xp (some this)) fun v21 => xb (xp asked_3) fun v22 => xb (xp person_) fun v23 => xb (xp (-1 : Int32)) fun v24 => xo 7 v21 fun q => F_X6_newestInLog q v22 v23 v24) fun forAll_25 =>
  (xb (xp forDay_20) fun v29 => xb (xp forAll_25) fun v30 => xb (xb (xb (xp asked_3) fun v26 => xgr 1 2 v26) fun v27 => xb (xp day_) fun v28 => xo 5 v27 fun q => F_X4_standOf q v28) fun v31 => F_X1_answerBy v29 v30 v31))))))))
set_option maxRecDepth 100000 in
set_option maxHeartbeats 4000000 in
theorem M_X6_answerByLog (this : Nat) (meeting_ : Int32) (person_ : Int32) (day_ : Int32) : MM yX6_answerByLog cX6_answerByLog 7 (some .int) 8 121 4 24 encI [.ref this, .int meeting_, .int person_, .int day_] (F_X6_answerByLog this meeting_ person_ day_) := by
  refine MM_of (env0 := [(0, va_rf (some this)), (1, .int meeting_), (2, .int person_), (3, .int day_)]) (by decide) (by exact Nat.le_of_ble_eq_true rfl) (by rfl) (fun k mm res X C hR hN hr hname h => ?_)
  have X : CX k cX6_answerByLog RX6 := X
  have hT : TH k (fun e m' => res = (.error e, m')) := TH_of C
  have htr := C.2.2.2.1
  unfold F_X6_answerByLog at h
  exact SB_go (T := fun e m' => res = (.error e, m')) (RET := fun v m' => res = (.ok v, m')) (SB_let (XE_2 (pB := pR) wR (L_aload_n (r := (some this)) 0 X dX6_answerByLog_0 rfl rfl) (L_iload_n (x := meeting_) 1 X dX6_answerByLog_1 rfl rfl) (fun v0 v1 st mm a b hd hc hs h => g_callVo (st := st) (cI := 7) X hT htr rfl (fun q => M_X6_meetingNumbered q v1) lk_X6_meetingNumbered im_X6_meetingNumbered se_X6_meetingNumbered ml_X6_100 rfl (by rw [hR]; exact ⟨Nat.le_of_ble_eq_true rfl, Nat.le_of_ble_eq_true rfl⟩) (Nat.le_trans hd (by decide)) ⟨hc, hs⟩ dX6_answerByLog_2 h)) (S_astore (ev := fun asked_3 => [(4, va_rf asked_3), (0, va_rf (some this)), (1, .int meeting_), (2, .int person_), (3, .int day_)]) X dX6_answerByLog_5 (by rw [hN]; decide) (fun _ => rfl)) fun asked_3 =>
  (SB_do (XE_1 (pB := pU)  (L_iload_n (x := person_) 3 X dX6_answerByLog_7 rfl rfl) (fun v0 st mm a b hd hc hs h => g_callS (st := st) X hT htr (M_X6_needPerson v0) lk_X6_needPerson st_X6_needPerson ml_X6_72 rfl (by rw [hR]; exact ⟨Nat.le_of_ble_eq_true rfl, Nat.le_of_ble_eq_true rfl⟩) (Nat.le_trans hd (by decide)) ⟨hc, hs⟩ dX6_answerByLog_8 h))
  (SB_do (XE_1 (pB := pU)  (L_iload_n (x := day_) 4 X dX6_answerByLog_11 rfl rfl) (fun v0 st mm a b hd hc hs h => g_callS (st := st) X hT htr (M_X6_needDay v0) lk_X6_needDay st_X6_needDay ml_X6_55 rfl (by rw [hR]; exact ⟨Nat.le_of_ble_eq_true rfl, Nat.le_of_ble_eq_true rfl⟩) (Nat.le_trans hd (by decide)) ⟨hc, hs⟩ dX6_answerByLog_12 h))
  (SB_do (XE_1 (pB := pU)  (XE_2 (pB := pI) wR (XE_1 (L_aload (r := asked_3) 0 X dX6_answerByLog_15 rfl) (O_gr (c := 1) (j := 2) X rfl inW0 (by decide) fl_X6_104 rfl dX6_answerByLog_17)) (L_iload_n (x := day_) 4 X dX6_answerByLog_20 rfl rfl) (fun v0 v1 st mm a b hd hc hs h => g_callVo (st := st) (cI := 5) X hT htr rfl (fun q => M_X4_isDate q v1) lk_X4_isDate im_X4_isDate se_X4_isDate ml_X6_123 rfl (by rw [hR]; exact ⟨Nat.le_of_ble_eq_true rfl, Nat.le_of_ble_eq_true rfl⟩) (Nat.le_trans hd (by decide)) ⟨hc, hs⟩ dX6_answerByLog_21 h)) (fun v0 st mm a b hd hc hs h => g_callS (st := st) X hT htr (M_X6_needState v0) lk_X6_needState st_X6_needState ml_X6_81 rfl (by rw [hR]; exact ⟨Nat.le_of_ble_eq_true rfl, Nat.le_of_ble_eq_true rfl⟩) (Nat.le_trans hd (by decide)) ⟨hc, hs⟩ dX6_answerByLog_24 h))
  (SB_if (CE_not (CE_1 (XE_2 (pB := pI) wI (XE_2 (pB := pI) wR (L_aload_n (r := (some this)) 1 X dX6_answerByLog_27 rfl rfl) (L_aload (r := asked_3) 0 X dX6_answerByLog_28 rfl) (fun v0 v1 st mm a b hd hc hs h => g_callVo (st := st) (cI := 7) X hT htr rfl (fun q => M_X6_askedByLog q v1) lk_X6_askedByLog im_X6_askedByLog se_X6_askedByLog ml_X6_299 rfl (by rw [hR]; exact ⟨Nat.le_of_ble_eq_true rfl, Nat.le_of_ble_eq_true rfl⟩) (Nat.le_trans hd (by decide)) ⟨hc, hs⟩ dX6_answerByLog_30 h)) (L_iload_n (x := person_) 3 X dX6_answerByLog_33 rfl rfl) (fun v0 v1 st mm a b hd hc hs h => g_callS (st := st) X hT htr (M_X6_isIn v0 v1) lk_X6_isIn st_X6_isIn ml_X6_153 rfl (by rw [hR]; exact ⟨Nat.le_of_ble_eq_true rfl, Nat.le_of_ble_eq_true rfl⟩) (Nat.le_trans hd (by decide)) ⟨hc, hs⟩ dX6_answerByLog_34 h)) (Z_ne_T X dX6_answerByLog_37 (by decide))))
  (SB_retI X C hr dX6_answerByLog_41 (L_iconst (v := (-1)) X dX6_answerByLog_40 (by decide)))
  (SB_let (XE_4 (pB := pR) wR wR wI (L_aload_n (r := (some this)) 1 X dX6_answerByLog_42 rfl rfl) (L_aload (r := asked_3) 0 X dX6_answerByLog_43 rfl) (L_iload_n (x := person_) 3 X dX6_answerByLog_45 rfl rfl) (L_iload_n (x := day_) 4 X dX6_answerByLog_46 rfl rfl) (fun v0 v1 v2 v3 st mm a b hd hc hs h => g_callVo (st := st) (cI := 7) X hT htr rfl (fun q => M_X6_newestInLog q v1 v2 v3) lk_X6_newestInLog im_X6_newestInLog se_X6_newestInLog ml_X6_302 rfl (by rw [hR]; exact ⟨Nat.le_of_ble_eq_true rfl, Nat.le_of_ble_eq_true rfl⟩) (Nat.le_trans hd (by decide)) ⟨hc, hs⟩ dX6_answerByLog_47 h)) (S_astore (ev := fun forDay_20 => [(5, va_rf forDay_20), (4, va_rf asked_3), (0, va_rf (some this)), (1, .int meeting_), (2, .int person_), (3, .int day_)]) X dX6_answerByLog_50 (by rw [hN]; decide) (fun _ => (by cases asked_3 <;> rfl))) fun forDay_20 =>
  (SB_let (XE_4 (pB := pR) wR wR wI (L_aload_n (r := (some this)) 2 X dX6_answerByLog_52 rfl rfl) (L_aload (r := asked_3) 1 X dX6_answerByLog_53 rfl) (L_iload_n (x := person_) 4 X dX6_answerByLog_55 rfl rfl) (L_iconst (v := (-1)) X dX6_answerByLog_56 (by decide)) (fun v0 v1 v2 v3 st mm a b hd hc hs h => g_callVo (st := st) (cI := 7) X hT htr rfl (fun q => M_X6_newestInLog q v1 v2 v3) lk_X6_newestInLog im_X6_newestInLog se_X6_newestInLog ml_X6_302 rfl (by rw [hR]; exact ⟨Nat.le_of_ble_eq_true rfl, Nat.le_of_ble_eq_true rfl⟩) (Nat.le_trans hd (by decide)) ⟨hc, hs⟩ dX6_answerByLog_57 h)) (S_astore (ev := fun forAll_25 => [(6, va_rf forAll_25), (5, va_rf forDay_20), (4, va_rf asked_3), (0, va_rf (some this)), (1, .int meeting_), (2, .int person_), (3, .int day_)]) X dX6_answerByLog_60 (by rw [hN]; decide) (fun _ => (by cases forDay_20 <;> rfl))) fun forAll_25 =>
  (SB_retI X C hr dX6_answerByLog_78 (XE_3 (pB := pI) wR wR (L_aload (r := forDay_20) 1 X dX6_answerByLog_62 rfl) (L_aload (r := forAll_25) 0 X dX6_answerByLog_64 rfl) (XE_2 (pB := pI) wR (XE_1 (L_aload (r := asked_3) 2 X dX6_answerByLog_66 rfl) (O_gr (c := 1) (j := 2) X rfl inW0 (by decide) fl_X6_104 rfl dX6_answerByLog_68)) (L_iload_n (x := day_) 6 X dX6_answerByLog_71 rfl rfl) (fun v0 v1 st mm a b hd hc hs h => g_callVo (st := st) (cI := 5) X hT htr rfl (fun q => M_X4_standOf q v1) lk_X4_standOf im_X4_standOf se_X4_standOf ml_X6_306 rfl (by rw [hR]; exact ⟨Nat.le_of_ble_eq_true rfl, Nat.le_of_ble_eq_true rfl⟩) (Nat.le_trans hd (by decide)) ⟨hc, hs⟩ dX6_answerByLog_72 h)) (fun v0 v1 v2 st mm a b hd hc hs h => g_callS (st := st) X hT htr (M_X1_answerBy v0 v1 v2) lk_X1_answerBy st_X1_answerBy ml_X6_309 rfl (by rw [hR]; exact ⟨Nat.le_of_ble_eq_true rfl, Nat.le_of_ble_eq_true rfl⟩) (Nat.le_trans hd (by decide)) ⟨hc, hs⟩ dX6_answerByLog_75 h)))))))))) h (by rw [hR]; decide) (by rw [hR]; decide)
theorem dX6_agrees_0 : decode cX6_agrees 0 = .ok (.aload_n 0, 1) := by decide +kernel
theorem dX6_agrees_1 : decode cX6_agrees 1 = .ok (.iload_n 1, 1) := by decide +kernel
theorem dX6_agrees_2 : decode cX6_agrees 2 = .ok (.invokevirtual 100, 3) := by decide +kernel
theorem dX6_agrees_5 : decode cX6_agrees 5 = .ok (.astore_n 2, 1) := by decide +kernel
theorem dX6_agrees_6 : decode cX6_agrees 6 = .ok (.aload_n 2, 1) := by decide +kernel
theorem dX6_agrees_7 : decode cX6_agrees 7 = .ok (.getfield 104, 3) := by decide +kernel
theorem dX6_agrees_10 : decode cX6_agrees 10 = .ok (.getfield 108, 3) := by decide +kernel
theorem dX6_agrees_13 : decode cX6_agrees 13 = .ok (.ifCond .eq 5, 3) := by decide +kernel
theorem dX6_agrees_16 : decode cX6_agrees 16 = .ok (.iconst 0, 1) := by decide +kernel
theorem dX6_agrees_17 : decode cX6_agrees 17 = .ok (.ireturn, 1) := by decide +kernel
theorem dX6_agrees_18 : decode cX6_agrees 18 = .ok (.aload_n 0, 1) := by decide +kernel
theorem dX6_agrees_19 : decode cX6_agrees 19 = .ok (.aload_n 2, 1) := by decide +kernel
theorem dX6_agrees_20 : decode cX6_agrees 20 = .ok (.invokevirtual 167, 3) := by decide +kernel
theorem dX6_agrees_23 : decode cX6_agrees 23 = .ok (.istore_n 3, 1) := by decide +kernel
theorem dX6_agrees_24 : decode cX6_agrees 24 = .ok (.iconst 0, 1) := by decide +kernel
theorem dX6_agrees_25 : decode cX6_agrees 25 = .ok (.istore 4, 2) := by decide +kernel
theorem dX6_agrees_27 : decode cX6_agrees 27 = .ok (.iload 4, 2) := by decide +kernel
theorem dX6_agrees_29 : decode cX6_agrees 29 = .ok (.iconst 5, 1) := by decide +kernel
theorem dX6_agrees_30 : decode cX6_agrees 30 = .ok (.if_icmp .ge 29, 3) := by decide +kernel
theorem dX6_agrees_33 : decode cX6_agrees 33 = .ok (.iload_n 3, 1) := by decide +kernel
theorem dX6_agrees_34 : decode cX6_agrees 34 = .ok (.iload 4, 2) := by decide +kernel
theorem dX6_agrees_36 : decode cX6_agrees 36 = .ok (.invokestatic 153, 3) := by decide +kernel
theorem dX6_agrees_39 : decode cX6_agrees 39 = .ok (.ifCond .eq 14, 3) := by decide +kernel
theorem dX6_agrees_42 : decode cX6_agrees 42 = .ok (.aload_n 2, 1) := by decide +kernel
theorem dX6_agrees_43 : decode cX6_agrees 43 = .ok (.iload 4, 2) := by decide +kernel
theorem dX6_agrees_45 : decode cX6_agrees 45 = .ok (.invokevirtual 313, 3) := by decide +kernel
theorem dX6_agrees_48 : decode cX6_agrees 48 = .ok (.ifCond .ne 5, 3) := by decide +kernel
theorem dX6_agrees_51 : decode cX6_agrees 51 = .ok (.iconst 0, 1) := by decide +kernel
theorem dX6_agrees_52 : decode cX6_agrees 52 = .ok (.ireturn, 1) := by decide +kernel
theorem dX6_agrees_53 : decode cX6_agrees 53 = .ok (.iinc 4 1, 3) := by decide +kernel
theorem dX6_agrees_56 : decode cX6_agrees 56 = .ok (.goto (-29), 3) := by decide +kernel
theorem dX6_agrees_59 : decode cX6_agrees 59 = .ok (.iconst 1, 1) := by decide +kernel
theorem dX6_agrees_60 : decode cX6_agrees 60 = .ok (.ireturn, 1) := by decide +kernel
theorem lk_X6_agrees : LK yX6_agrees cX6_agrees 5 (some .boolean) 1 := ⟨qW_at 583 (by decide +kernel) rfl, qW_at 29 (by decide +kernel) rfl, by decide, by decide, by decide +kernel⟩
theorem im_X6_agrees : Cond.instanceMethod yX6_agrees ∈ qW := qW_at 581 (by decide +kernel) rfl
theorem se_X6_agrees : Cond.selects RX6 yX6_agrees yX6_agrees ∈ qW := qW_at 582 (by decide +kernel) rfl
def F_X6_agrees (this : Nat) (meeting_ : Int32) : QX Int32 :=
  (xb (xb (xp (some this)) fun v1 => xb (xp meeting_) fun v2 => xo 7 v1 fun q => F_X6_meetingNumbered q v2) fun asked_3 =>
  (xb (xb (xb (xb (xp asked_3) fun v4 => xgr 1 2 v4) fun v5 => xgi 5 16 v5) fun v6 => xp (decide (¬ v6 = 0))) fun v27 => if v27 then (xb (xp (0 : Int32)) xz) else
  (xb (xb (xp (some this)) fun v7 => xb (xp asked_3) fun v8 => xo 7 v7 fun q => F_X6_askedOf q v8) fun people_9 =>
  (xb (xp (0 : Int32)) fun person_10 =>
  (xb (xlr 2000 (fun (s11 : Int32) => (xb (xp s11) fun v12 => xb (xp (5 : Int32)) fun v13 => xp (decide (v12 < v13)))) (fun (s11 : Int32) =>
  (xb (xb (xb (xb (xp people_9) fun v14 => xb (xp s11) fun v15 => F_X6_isIn v14 v15) fun v16 => xp (decide (¬ v16 = 0))) fun v21 => if v21 then (xb (xb (xb (xp asked_3) fun v17 => xb (xp s11) fun v18 => xo 1 v17 fun q => F_X0_isAgreedWith q v18) fun v19 => xp (decide (¬ v19 = 0))) fun v20 => xp (!v20)) else xp false) fun v23 => if v23 then (xb (xb (xp (0 : Int32)) xz) fun v24 => xp (Sum.inl v24)) else
  (xb (xp (s11 + 1)) fun s22 => xp (Sum.inr s22)))) person_10) fun r26 => xsum r26 fun s25 =>
  (xb (xp (1 : Int32)) xz))))))
set_option maxRecDepth 100000 in
set_option maxHeartbeats 4000000 in
theorem M_X6_agrees (this : Nat) (meeting_ : Int32) : MM yX6_agrees cX6_agrees 5 (some .boolean) 7 114 1 6 encI [.ref this, .int meeting_] (F_X6_agrees this meeting_) := by
  refine MM_of (env0 := [(0, va_rf (some this)), (1, .int meeting_)]) (by decide) (by exact Nat.le_of_ble_eq_true rfl) (by rfl) (fun k mm res X C hR hN hr hname h => ?_)
  have X : CX k cX6_agrees RX6 := X
  have hT : TH k (fun e m' => res = (.error e, m')) := TH_of C
  have htr := C.2.2.2.1
  unfold F_X6_agrees at h
  exact SB_go (T := fun e m' => res = (.error e, m')) (RET := fun v m' => res = (.ok v, m')) (SB_let (XE_2 (pB := pR) wR (L_aload_n (r := (some this)) 0 X dX6_agrees_0 rfl rfl) (L_iload_n (x := meeting_) 1 X dX6_agrees_1 rfl rfl) (fun v0 v1 st mm a b hd hc hs h => g_callVo (st := st) (cI := 7) X hT htr rfl (fun q => M_X6_meetingNumbered q v1) lk_X6_meetingNumbered im_X6_meetingNumbered se_X6_meetingNumbered ml_X6_100 rfl (by rw [hR]; exact ⟨Nat.le_of_ble_eq_true rfl, Nat.le_of_ble_eq_true rfl⟩) (Nat.le_trans hd (by decide)) ⟨hc, hs⟩ dX6_agrees_2 h)) (S_astore_n (ev := fun asked_3 => [(2, va_rf asked_3), (0, va_rf (some this)), (1, .int meeting_)]) X dX6_agrees_5 rfl (by rw [hN]; decide) (fun _ => rfl)) fun asked_3 =>
  (SB_if (CE_1 (XE_1 (XE_1 (L_aload_n (r := asked_3) 0 X dX6_agrees_6 rfl rfl) (O_gr (c := 1) (j := 2) X rfl inW0 (by decide) fl_X6_104 rfl dX6_agrees_7)) (O_gi (c := 5) (j := 16) X rfl inW4 (by decide) fl_X6_108 rfl dX6_agrees_10)) (Z_ne_F X dX6_agrees_13 (by decide)))
  (SB_retZ X C hr dX6_agrees_17 (L_iconst (v := 0) X dX6_agrees_16 (by decide)))
  (SB_let (XE_2 (pB := pI) wR (L_aload_n (r := (some this)) 1 X dX6_agrees_18 rfl rfl) (L_aload_n (r := asked_3) 0 X dX6_agrees_19 rfl rfl) (fun v0 v1 st mm a b hd hc hs h => g_callVo (st := st) (cI := 7) X hT htr rfl (fun q => M_X6_askedOf q v1) lk_X6_askedOf im_X6_askedOf se_X6_askedOf ml_X6_167 rfl (by rw [hR]; exact ⟨Nat.le_of_ble_eq_true rfl, Nat.le_of_ble_eq_true rfl⟩) (Nat.le_trans hd (by decide)) ⟨hc, hs⟩ dX6_agrees_20 h)) (S_istore_n (ev := fun people_9 => [(3, .int people_9), (2, va_rf asked_3), (0, va_rf (some this)), (1, .int meeting_)]) X dX6_agrees_23 rfl (by rw [hN]; decide) (fun _ => (by cases asked_3 <;> rfl))) fun people_9 =>
  (SB_let (L_iconst (v := 0) X dX6_agrees_24 (by decide)) (S_istore (ev := fun person_10 => [(4, .int person_10), (3, .int people_9), (2, va_rf asked_3), (0, va_rf (some this)), (1, .int meeting_)]) X dX6_agrees_25 (by rw [hN]; decide) (fun _ => rfl)) fun person_10 =>
  (SB_seqR (STR_loop (σ := Int32) (upd := (fun (s : Int32) => [(4, .int s), (3, .int people_9), (2, va_rf asked_3), (0, va_rf (some this)), (1, .int meeting_)])) (s0 := person_10) (n := 2000) (fun mm a b h => GG_sub [0, 1, 2, 3, 4] rfl h)
  (fun s11 => (CE_2 wI (L_iload (x := s11) 0 X dX6_agrees_27 rfl) (L_iconst (v := 5) X dX6_agrees_29 (by decide)) (C_lt_F X dX6_agrees_30 (by decide))))
  (fun s11 => (STR_post (STR_if (CE_and (CE_1 (XE_2 (pB := pI) wI (L_iload_n (x := people_9) 1 X dX6_agrees_33 rfl rfl) (L_iload (x := s11) 0 X dX6_agrees_34 rfl) (fun v0 v1 st mm a b hd hc hs h => g_callS (st := st) X hT htr (M_X6_isIn v0 v1) lk_X6_isIn st_X6_isIn ml_X6_153 rfl (by rw [hR]; exact ⟨Nat.le_of_ble_eq_true rfl, Nat.le_of_ble_eq_true rfl⟩) (Nat.le_trans hd (by decide)) ⟨hc, hs⟩ dX6_agrees_36 h)) (Z_ne_F X dX6_agrees_39 (by decide))) (CE_not (CE_1 (XE_2 (pB := pI) wR (L_aload_n (r := asked_3) 2 X dX6_agrees_42 rfl rfl) (L_iload (x := s11) 0 X dX6_agrees_43 rfl) (fun v0 v1 st mm a b hd hc hs h => g_callVo (st := st) (cI := 1) X hT htr rfl (fun q => M_X0_isAgreedWith q v1) lk_X0_isAgreedWith im_X0_isAgreedWith se_X0_isAgreedWith ml_X6_313 rfl (by rw [hR]; exact ⟨Nat.le_of_ble_eq_true rfl, Nat.le_of_ble_eq_true rfl⟩) (Nat.le_trans hd (by decide)) ⟨hc, hs⟩ dX6_agrees_45 h)) (Z_ne_T X dX6_agrees_48 (by decide)))))
  (SB_retZ X C hr dX6_agrees_52 (L_iconst (v := 0) X dX6_agrees_51 (by decide)))
  (STR_of (ST_pre (env' := [(4, .int (s11 + 1)), (3, .int people_9), (2, va_rf asked_3), (0, va_rf (some this)), (1, .int meeting_)]) (S_iinc 0 X dX6_agrees_53 rfl rfl (by rw [hN]; decide) rfl)
  (ST_done (upd := (fun (s : Int32) => [(4, .int s), (3, .int people_9), (2, va_rf asked_3), (0, va_rf (some this)), (1, .int meeting_)])) (s := (s11 + 1)) [0, 1, 2, 3, 4] rfl)))) fun _ mm a b h => S_goto X dX6_agrees_56 (by decide) [] mm a b h))) fun s25 =>
  (SB_retZ X C hr dX6_agrees_60 (L_iconst (v := 1) X dX6_agrees_59 (by decide)))))))) h (by rw [hR]; decide) (by rw [hR]; decide)
theorem dX6_proposals_0 : decode cX6_proposals 0 = .ok (.aload_n 0, 1) := by decide +kernel
theorem dX6_proposals_1 : decode cX6_proposals 1 = .ok (.aload_n 0, 1) := by decide +kernel
theorem dX6_proposals_2 : decode cX6_proposals 2 = .ok (.iload_n 1, 1) := by decide +kernel
theorem dX6_proposals_3 : decode cX6_proposals 3 = .ok (.invokevirtual 100, 3) := by decide +kernel
theorem dX6_proposals_6 : decode cX6_proposals 6 = .ok (.invokevirtual 207, 3) := by decide +kernel
theorem dX6_proposals_9 : decode cX6_proposals 9 = .ok (.ireturn, 1) := by decide +kernel
theorem lk_X6_proposals : LK yX6_proposals cX6_proposals 2 (some .int) 1 := ⟨qW_at 544 (by decide +kernel) rfl, qW_at 29 (by decide +kernel) rfl, by decide, by decide, by decide +kernel⟩
theorem im_X6_proposals : Cond.instanceMethod yX6_proposals ∈ qW := qW_at 542 (by decide +kernel) rfl
theorem se_X6_proposals : Cond.selects RX6 yX6_proposals yX6_proposals ∈ qW := qW_at 543 (by decide +kernel) rfl
def F_X6_proposals (this : Nat) (meeting_ : Int32) : QX Int32 :=
  (xb (xp (some this)) fun v3 => xb (xb (xp (some this)) fun v1 => xb (xp meeting_) fun v2 => xo 7 v1 fun q => F_X6_meetingNumbered q v2) fun v4 => xo 7 v3 fun q => F_X6_openProposals q v4)
set_option maxRecDepth 100000 in
set_option maxHeartbeats 4000000 in
theorem M_X6_proposals (this : Nat) (meeting_ : Int32) : MM yX6_proposals cX6_proposals 2 (some .int) 7 102 1 6 encI [.ref this, .int meeting_] (F_X6_proposals this meeting_) := by
  refine MM_of (env0 := [(0, va_rf (some this)), (1, .int meeting_)]) (by decide) (by exact Nat.le_of_ble_eq_true rfl) (by rfl) (fun k mm res X C hR hN hr hname h => ?_)
  have X : CX k cX6_proposals RX6 := X
  have hT : TH k (fun e m' => res = (.error e, m')) := TH_of C
  have htr := C.2.2.2.1
  unfold F_X6_proposals at h
  exact SB_go (T := fun e m' => res = (.error e, m')) (RET := fun v m' => res = (.ok v, m')) (SB_retI X C hr dX6_proposals_9 (XE_2 (pB := pI) wR (L_aload_n (r := (some this)) 0 X dX6_proposals_0 rfl rfl) (XE_2 (pB := pR) wR (L_aload_n (r := (some this)) 0 X dX6_proposals_1 rfl rfl) (L_iload_n (x := meeting_) 1 X dX6_proposals_2 rfl rfl) (fun v0 v1 st mm a b hd hc hs h => g_callVo (st := st) (cI := 7) X hT htr rfl (fun q => M_X6_meetingNumbered q v1) lk_X6_meetingNumbered im_X6_meetingNumbered se_X6_meetingNumbered ml_X6_100 rfl (by rw [hR]; exact ⟨Nat.le_of_ble_eq_true rfl, Nat.le_of_ble_eq_true rfl⟩) (Nat.le_trans hd (by decide)) ⟨hc, hs⟩ dX6_proposals_3 h)) (fun v0 v1 st mm a b hd hc hs h => g_callVo (st := st) (cI := 7) X hT htr rfl (fun q => M_X6_openProposals q v1) lk_X6_openProposals im_X6_openProposals se_X6_openProposals ml_X6_207 rfl (by rw [hR]; exact ⟨Nat.le_of_ble_eq_true rfl, Nat.le_of_ble_eq_true rfl⟩) (Nat.le_trans hd (by decide)) ⟨hc, hs⟩ dX6_proposals_6 h))) h (by rw [hR]; decide) (by rw [hR]; decide)
theorem dX6_needPlace_0 : decode cX6_needPlace 0 = .ok (.iload_n 0, 1) := by decide +kernel
theorem dX6_needPlace_1 : decode cX6_needPlace 1 = .ok (.ifCond .lt 8, 3) := by decide +kernel
theorem dX6_needPlace_4 : decode cX6_needPlace 4 = .ok (.iload_n 0, 1) := by decide +kernel
theorem dX6_needPlace_5 : decode cX6_needPlace 5 = .ok (.iload_n 1, 1) := by decide +kernel
theorem dX6_needPlace_6 : decode cX6_needPlace 6 = .ok (.if_icmp .lt 11, 3) := by decide +kernel
theorem dX6_needPlace_9 : decode cX6_needPlace 9 = .ok (.new 281, 3) := by decide +kernel
theorem dX6_needPlace_12 : decode cX6_needPlace 12 = .ok (.dup, 1) := by decide +kernel
theorem dX6_needPlace_13 : decode cX6_needPlace 13 = .ok (.invokespecial 283, 3) := by decide +kernel
theorem dX6_needPlace_16 : decode cX6_needPlace 16 = .ok (.athrow, 1) := by decide +kernel
theorem dX6_needPlace_17 : decode cX6_needPlace 17 = .ok (.return_, 1) := by decide +kernel
theorem lk_X6_needPlace : LK yX6_needPlace cX6_needPlace 2 none 2 := ⟨qW_at 409 (by decide +kernel) rfl, qW_at 29 (by decide +kernel) rfl, by decide, by decide, by decide +kernel⟩
theorem st_X6_needPlace : Cond.static yX6_needPlace ∈ qW := qW_at 408 (by decide +kernel) rfl
def F_X6_needPlace (place_ : Int32) (count_ : Int32) : QX Unit :=
  (xb (xb (xb (xp place_) fun v1 => xp (decide (v1 < 0))) fun v4 => if v4 then xp true else (xb (xp place_) fun v2 => xb (xp count_) fun v3 => xp (decide (v3 ≤ v2)))) fun v5 => if v5 then (xth 1) else
  (xp ()))
set_option maxRecDepth 100000 in
set_option maxHeartbeats 4000000 in
theorem M_X6_needPlace (place_ : Int32) (count_ : Int32) : MM yX6_needPlace cX6_needPlace 2 none 6 81 1 6 encU [.int place_, .int count_] (F_X6_needPlace place_ count_) := by
  refine MM_of (env0 := [(0, .int place_), (1, .int count_)]) (by decide) (by exact Nat.le_of_ble_eq_true rfl) (by rfl) (fun k mm res X C hR hN hr hname h => ?_)
  have X : CX k cX6_needPlace RX6 := X
  have hT : TH k (fun e m' => res = (.error e, m')) := TH_of C
  have htr := C.2.2.2.1
  unfold F_X6_needPlace at h
  exact SB_go (T := fun e m' => res = (.error e, m')) (RET := fun v m' => res = (.ok v, m')) (SB_if (CE_or (CE_1 (L_iload_n (x := place_) 0 X dX6_needPlace_0 rfl rfl) (Z_lt_T X dX6_needPlace_1 (by decide))) (CE_2 wI (L_iload_n (x := place_) 0 X dX6_needPlace_4 rfl rfl) (L_iload_n (x := count_) 1 X dX6_needPlace_5 rfl rfl) (C_ge_F X dX6_needPlace_6 (by decide))))
  (SB_throw fun mm a b ha hb h => g_throw (e := 1) X C (by decide) tk_X6_281_283 ti_1 ta_X6_281_283 tg_X6_281_283 (by rw [hR]; exact Nat.le_of_ble_eq_true rfl) (by rw [hR]; exact Nat.le_of_ble_eq_true rfl) ha hb dX6_needPlace_9 dX6_needPlace_12 dX6_needPlace_13 dX6_needPlace_16 h)
  (SB_retU X C hr dX6_needPlace_17)) h (by rw [hR]; decide) (by rw [hR]; decide)
theorem dX6_proposalAt_0 : decode cX6_proposalAt 0 = .ok (.aload_n 0, 1) := by decide +kernel
theorem dX6_proposalAt_1 : decode cX6_proposalAt 1 = .ok (.iload_n 1, 1) := by decide +kernel
theorem dX6_proposalAt_2 : decode cX6_proposalAt 2 = .ok (.invokevirtual 100, 3) := by decide +kernel
theorem dX6_proposalAt_5 : decode cX6_proposalAt 5 = .ok (.astore_n 3, 1) := by decide +kernel
theorem dX6_proposalAt_6 : decode cX6_proposalAt 6 = .ok (.iload_n 2, 1) := by decide +kernel
theorem dX6_proposalAt_7 : decode cX6_proposalAt 7 = .ok (.aload_n 0, 1) := by decide +kernel
theorem dX6_proposalAt_8 : decode cX6_proposalAt 8 = .ok (.aload_n 3, 1) := by decide +kernel
theorem dX6_proposalAt_9 : decode cX6_proposalAt 9 = .ok (.invokevirtual 207, 3) := by decide +kernel
theorem dX6_proposalAt_12 : decode cX6_proposalAt 12 = .ok (.invokestatic 261, 3) := by decide +kernel
theorem dX6_proposalAt_15 : decode cX6_proposalAt 15 = .ok (.iconst 0, 1) := by decide +kernel
theorem dX6_proposalAt_16 : decode cX6_proposalAt 16 = .ok (.istore 4, 2) := by decide +kernel
theorem dX6_proposalAt_18 : decode cX6_proposalAt 18 = .ok (.iconst (-1), 1) := by decide +kernel
theorem dX6_proposalAt_19 : decode cX6_proposalAt 19 = .ok (.istore 5, 2) := by decide +kernel
theorem dX6_proposalAt_21 : decode cX6_proposalAt 21 = .ok (.iconst 0, 1) := by decide +kernel
theorem dX6_proposalAt_22 : decode cX6_proposalAt 22 = .ok (.istore 6, 2) := by decide +kernel
theorem dX6_proposalAt_24 : decode cX6_proposalAt 24 = .ok (.iload 6, 2) := by decide +kernel
theorem dX6_proposalAt_26 : decode cX6_proposalAt 26 = .ok (.aload_n 0, 1) := by decide +kernel
theorem dX6_proposalAt_27 : decode cX6_proposalAt 27 = .ok (.getfield 245, 3) := by decide +kernel
theorem dX6_proposalAt_30 : decode cX6_proposalAt 30 = .ok (.if_icmp .ge 54, 3) := by decide +kernel
theorem dX6_proposalAt_33 : decode cX6_proposalAt 33 = .ok (.iload 5, 2) := by decide +kernel
theorem dX6_proposalAt_35 : decode cX6_proposalAt 35 = .ok (.iconst (-1), 1) := by decide +kernel
theorem dX6_proposalAt_36 : decode cX6_proposalAt 36 = .ok (.if_icmp .ne 48, 3) := by decide +kernel
theorem dX6_proposalAt_39 : decode cX6_proposalAt 39 = .ok (.aload_n 0, 1) := by decide +kernel
theorem dX6_proposalAt_40 : decode cX6_proposalAt 40 = .ok (.getfield 29, 3) := by decide +kernel
theorem dX6_proposalAt_43 : decode cX6_proposalAt 43 = .ok (.iload 6, 2) := by decide +kernel
theorem dX6_proposalAt_45 : decode cX6_proposalAt 45 = .ok (.aaload, 1) := by decide +kernel
theorem dX6_proposalAt_46 : decode cX6_proposalAt 46 = .ok (.astore 7, 2) := by decide +kernel
theorem dX6_proposalAt_48 : decode cX6_proposalAt 48 = .ok (.aload 7, 2) := by decide +kernel
theorem dX6_proposalAt_50 : decode cX6_proposalAt 50 = .ok (.getfield 197, 3) := by decide +kernel
theorem dX6_proposalAt_53 : decode cX6_proposalAt 53 = .ok (.aload_n 3, 1) := by decide +kernel
theorem dX6_proposalAt_54 : decode cX6_proposalAt 54 = .ok (.if_acmp .ne 24, 3) := by decide +kernel
theorem dX6_proposalAt_57 : decode cX6_proposalAt 57 = .ok (.aload 7, 2) := by decide +kernel
theorem dX6_proposalAt_59 : decode cX6_proposalAt 59 = .ok (.invokestatic 190, 3) := by decide +kernel
theorem dX6_proposalAt_62 : decode cX6_proposalAt 62 = .ok (.ifCond .eq 16, 3) := by decide +kernel
theorem dX6_proposalAt_65 : decode cX6_proposalAt 65 = .ok (.iload 4, 2) := by decide +kernel
theorem dX6_proposalAt_67 : decode cX6_proposalAt 67 = .ok (.iload_n 2, 1) := by decide +kernel
theorem dX6_proposalAt_68 : decode cX6_proposalAt 68 = .ok (.if_icmp .ne 7, 3) := by decide +kernel
theorem dX6_proposalAt_71 : decode cX6_proposalAt 71 = .ok (.iload 6, 2) := by decide +kernel
theorem dX6_proposalAt_73 : decode cX6_proposalAt 73 = .ok (.istore 5, 2) := by decide +kernel
theorem dX6_proposalAt_75 : decode cX6_proposalAt 75 = .ok (.iinc 4 1, 3) := by decide +kernel
theorem dX6_proposalAt_78 : decode cX6_proposalAt 78 = .ok (.iinc 6 1, 3) := by decide +kernel
theorem dX6_proposalAt_81 : decode cX6_proposalAt 81 = .ok (.goto (-57), 3) := by decide +kernel
theorem dX6_proposalAt_84 : decode cX6_proposalAt 84 = .ok (.iload 5, 2) := by decide +kernel
theorem dX6_proposalAt_86 : decode cX6_proposalAt 86 = .ok (.ireturn, 1) := by decide +kernel
theorem lk_X6_proposalAt : LK yX6_proposalAt cX6_proposalAt 8 (some .int) 2 := ⟨qW_at 558 (by decide +kernel) rfl, qW_at 29 (by decide +kernel) rfl, by decide, by decide, by decide +kernel⟩
theorem im_X6_proposalAt : Cond.instanceMethod yX6_proposalAt ∈ qW := qW_at 556 (by decide +kernel) rfl
theorem se_X6_proposalAt : Cond.selects RX6 yX6_proposalAt yX6_proposalAt ∈ qW := qW_at 557 (by decide +kernel) rfl
def F_X6_proposalAt (this : Nat) (meeting_ : Int32) (place_ : Int32) : QX Int32 :=
  (xb (xb (xp (some this)) fun v1 => xb (xp meeting_) fun v2 => xo 7 v1 fun q => F_X6_meetingNumbered q v2) fun asked_3 =>
  (xb (xb (xp place_) fun v6 => xb (xb (xp (some this)) fun v4 => xb (xp asked_3) fun v5 => xo 7 v4 fun q => F_X6_openProposals q v5) fun v7 => F_X6_needPlace v6 v7) fun _ =>
  (xb (xp (0 : Int32)) fun ahead_8 =>
  (xb (xp (-1 : Int32)) fun found_9 =>
  (xb (xp (0 : Int32)) fun number_10 =>
  (xb (xl 2000 (fun (s11 : Int32 × Int32 × Int32) => (xb (xb (xp s11.2.2) fun v12 => xb (xb (xp (some this)) fun v13 => xgi 7 5 v13) fun v14 => xp (decide (v12 < v14))) fun v17 => if v17 then (xb (xp s11.1) fun v15 => xb (xp (-1 : Int32)) fun v16 => xp (decide (v15 = v16))) else xp false)) (fun (s11 : Int32 × Int32 × Int32) =>
  (xb (xb (xb (xp (some this)) fun v18 => xgr 7 3 v18) fun v19 => xb (xp s11.2.2) fun v20 => xar 2 v19 v20) fun message_21 =>
  (xb (xb (xb (xb (xb (xp message_21) fun v22 => xgr 2 1 v22) fun v23 => xb (xp asked_3) fun v24 => xp (decide (v23 = v24))) fun v27 => if v27 then (xb (xb (xp message_21) fun v25 => F_X6_isOpen v25) fun v26 => xp (decide (¬ v26 = 0))) else xp false) fun v33 => if v33 then (xb (xb (xb (xp s11.2.1) fun v28 => xb (xp place_) fun v29 => xp (decide (v28 = v29))) fun v31 => if v31 then (xb (xp s11.2.2) fun found_30 =>
  (xp found_30)) else (xp s11.1)) fun s32 =>
  (xp (s32, (s11.2.1 + 1)))) else (xp (s11.1, s11.2.1))) fun s34 =>
  (xp (s34.1, s34.2, (s11.2.2 + 1)))))) (found_9, ahead_8, number_10)) fun s35 =>
  (xp s35.1)))))))
set_option maxRecDepth 100000 in
set_option maxHeartbeats 4000000 in
theorem M_X6_proposalAt (this : Nat) (meeting_ : Int32) (place_ : Int32) : MM yX6_proposalAt cX6_proposalAt 8 (some .int) 7 102 2 12 encI [.ref this, .int meeting_, .int place_] (F_X6_proposalAt this meeting_ place_) := by
  refine MM_of (env0 := [(0, va_rf (some this)), (1, .int meeting_), (2, .int place_)]) (by decide) (by exact Nat.le_of_ble_eq_true rfl) (by rfl) (fun k mm res X C hR hN hr hname h => ?_)
  have X : CX k cX6_proposalAt RX6 := X
  have hT : TH k (fun e m' => res = (.error e, m')) := TH_of C
  have htr := C.2.2.2.1
  unfold F_X6_proposalAt at h
  exact SB_go (T := fun e m' => res = (.error e, m')) (RET := fun v m' => res = (.ok v, m')) (SB_let (XE_2 (pB := pR) wR (L_aload_n (r := (some this)) 0 X dX6_proposalAt_0 rfl rfl) (L_iload_n (x := meeting_) 1 X dX6_proposalAt_1 rfl rfl) (fun v0 v1 st mm a b hd hc hs h => g_callVo (st := st) (cI := 7) X hT htr rfl (fun q => M_X6_meetingNumbered q v1) lk_X6_meetingNumbered im_X6_meetingNumbered se_X6_meetingNumbered ml_X6_100 rfl (by rw [hR]; exact ⟨Nat.le_of_ble_eq_true rfl, Nat.le_of_ble_eq_true rfl⟩) (Nat.le_trans hd (by decide)) ⟨hc, hs⟩ dX6_proposalAt_2 h)) (S_astore_n (ev := fun asked_3 => [(3, va_rf asked_3), (0, va_rf (some this)), (1, .int meeting_), (2, .int place_)]) X dX6_proposalAt_5 rfl (by rw [hN]; decide) (fun _ => rfl)) fun asked_3 =>
  (SB_do (XE_2 (pB := pU) wI (L_iload_n (x := place_) 3 X dX6_proposalAt_6 rfl rfl) (XE_2 (pB := pI) wR (L_aload_n (r := (some this)) 1 X dX6_proposalAt_7 rfl rfl) (L_aload_n (r := asked_3) 0 X dX6_proposalAt_8 rfl rfl) (fun v0 v1 st mm a b hd hc hs h => g_callVo (st := st) (cI := 7) X hT htr rfl (fun q => M_X6_openProposals q v1) lk_X6_openProposals im_X6_openProposals se_X6_openProposals ml_X6_207 rfl (by rw [hR]; exact ⟨Nat.le_of_ble_eq_true rfl, Nat.le_of_ble_eq_true rfl⟩) (Nat.le_trans hd (by decide)) ⟨hc, hs⟩ dX6_proposalAt_9 h)) (fun v0 v1 st mm a b hd hc hs h => g_callS (st := st) X hT htr (M_X6_needPlace v0 v1) lk_X6_needPlace st_X6_needPlace ml_X6_261 rfl (by rw [hR]; exact ⟨Nat.le_of_ble_eq_true rfl, Nat.le_of_ble_eq_true rfl⟩) (Nat.le_trans hd (by decide)) ⟨hc, hs⟩ dX6_proposalAt_12 h))
  (SB_let (L_iconst (v := 0) X dX6_proposalAt_15 (by decide)) (S_istore (ev := fun ahead_8 => [(4, .int ahead_8), (3, va_rf asked_3), (0, va_rf (some this)), (1, .int meeting_), (2, .int place_)]) X dX6_proposalAt_16 (by rw [hN]; decide) (fun _ => (by cases asked_3 <;> rfl))) fun ahead_8 =>
  (SB_let (L_iconst (v := (-1)) X dX6_proposalAt_18 (by decide)) (S_istore (ev := fun found_9 => [(5, .int found_9), (4, .int ahead_8), (3, va_rf asked_3), (0, va_rf (some this)), (1, .int meeting_), (2, .int place_)]) X dX6_proposalAt_19 (by rw [hN]; decide) (fun _ => rfl)) fun found_9 =>
  (SB_let (L_iconst (v := 0) X dX6_proposalAt_21 (by decide)) (S_istore (ev := fun number_10 => [(6, .int number_10), (5, .int found_9), (4, .int ahead_8), (3, va_rf asked_3), (0, va_rf (some this)), (1, .int meeting_), (2, .int place_)]) X dX6_proposalAt_22 (by rw [hN]; decide) (fun _ => rfl)) fun number_10 =>
  (SB_seq (ST_loop (σ := Int32 × Int32 × Int32) (upd := (fun (s : Int32 × Int32 × Int32) => [(6, .int s.2.2), (5, .int s.1), (4, .int s.2.1), (3, va_rf asked_3), (0, va_rf (some this)), (1, .int meeting_), (2, .int place_)])) (s0 := (found_9, ahead_8, number_10)) (n := 2000) (fun mm a b h => GG_sub [0, 1, 2, 3, 4, 5, 6] rfl h)
  (fun s11 => (CE_and (CE_2 wI (L_iload (x := s11.2.2) 0 X dX6_proposalAt_24 rfl) (XE_1 (L_aload_n (r := (some this)) 4 X dX6_proposalAt_26 rfl rfl) (O_gi (c := 7) (j := 5) X rfl inW6 (by decide) fl_X6_245 rfl dX6_proposalAt_27)) (C_lt_F X dX6_proposalAt_30 (by decide))) (CE_2 wI (L_iload (x := s11.1) 1 X dX6_proposalAt_33 rfl) (L_iconst (v := (-1)) X dX6_proposalAt_35 (by decide)) (C_eq_F X dX6_proposalAt_36 (by decide)))))
  (fun s11 => (ST_post (ST_let (XE_2 wR (XE_1 (L_aload_n (r := (some this)) 4 X dX6_proposalAt_39 rfl rfl) (O_gr (c := 7) (j := 3) X rfl inW6 (by decide) fl_X6_29 rfl dX6_proposalAt_40)) (L_iload (x := s11.2.2) 0 X dX6_proposalAt_43 rfl) (O_ar (c := 2) X (by decide) rfl dX6_proposalAt_45)) (S_astore (ev := fun message_21 => [(7, va_rf message_21), (6, .int s11.2.2), (5, .int s11.1), (4, .int s11.2.1), (3, va_rf asked_3), (0, va_rf (some this)), (1, .int meeting_), (2, .int place_)]) X dX6_proposalAt_46 (by rw [hN]; decide) (fun _ => rfl)) fun message_21 =>
  (ST_seq (ST_if (CE_and (CE_2 wR (XE_1 (L_aload (r := message_21) 0 X dX6_proposalAt_48 rfl) (O_gr (c := 2) (j := 1) X rfl inW1 (by decide) fl_X6_197 rfl dX6_proposalAt_50)) (L_aload_n (r := asked_3) 4 X dX6_proposalAt_53 rfl rfl) (A_eq_F X dX6_proposalAt_54 (by decide))) (CE_1 (XE_1 (pB := pI)  (L_aload (r := message_21) 0 X dX6_proposalAt_57 rfl) (fun v0 st mm a b hd hc hs h => g_callS (st := st) X hT htr (M_X6_isOpen v0) lk_X6_isOpen st_X6_isOpen ml_X6_190 rfl (by rw [hR]; exact ⟨Nat.le_of_ble_eq_true rfl, Nat.le_of_ble_eq_true rfl⟩) (Nat.le_trans hd (by decide)) ⟨hc, hs⟩ dX6_proposalAt_59 h)) (Z_ne_F X dX6_proposalAt_62 (by decide))))
  (ST_seq (ST_if (CE_2 wI (L_iload (x := s11.2.1) 3 X dX6_proposalAt_65 rfl) (L_iload_n (x := place_) 7 X dX6_proposalAt_67 rfl rfl) (C_eq_F X dX6_proposalAt_68 (by decide)))
  (ST_let (L_iload (x := s11.2.2) 1 X dX6_proposalAt_71 rfl) (S_istore (ev := fun found_30 => [(5, .int found_30), (7, va_rf message_21), (6, .int s11.2.2), (4, .int s11.2.1), (3, va_rf asked_3), (0, va_rf (some this)), (1, .int meeting_), (2, .int place_)]) X dX6_proposalAt_73 (by rw [hN]; decide) (fun _ => rfl)) fun found_30 =>
  (ST_done (upd := (fun (s : Int32) => [(7, va_rf message_21), (6, .int s11.2.2), (5, .int s), (4, .int s11.2.1), (3, va_rf asked_3), (0, va_rf (some this)), (1, .int meeting_), (2, .int place_)])) (s := found_30) [1, 2, 0, 3, 4, 5, 6, 7] rfl))
  (ST_done (upd := (fun (s : Int32) => [(7, va_rf message_21), (6, .int s11.2.2), (5, .int s), (4, .int s11.2.1), (3, va_rf asked_3), (0, va_rf (some this)), (1, .int meeting_), (2, .int place_)])) (s := s11.1) [0, 1, 2, 3, 4, 5, 6, 7] rfl)) fun s32 =>
  (ST_pre (env' := [(4, .int (s11.2.1 + 1)), (7, va_rf message_21), (6, .int s11.2.2), (5, .int s32), (3, va_rf asked_3), (0, va_rf (some this)), (1, .int meeting_), (2, .int place_)]) (S_iinc 3 X dX6_proposalAt_75 rfl rfl (by rw [hN]; decide) (by cases asked_3 <;> rfl))
  (ST_done (upd := (fun (s : Int32 × Int32) => [(7, va_rf message_21), (6, .int s11.2.2), (5, .int s.1), (4, .int s.2), (3, va_rf asked_3), (0, va_rf (some this)), (1, .int meeting_), (2, .int place_)])) (s := (s32, (s11.2.1 + 1))) [1, 2, 3, 0, 4, 5, 6, 7] rfl)))
  (ST_done (upd := (fun (s : Int32 × Int32) => [(7, va_rf message_21), (6, .int s11.2.2), (5, .int s.1), (4, .int s.2), (3, va_rf asked_3), (0, va_rf (some this)), (1, .int meeting_), (2, .int place_)])) (s := (s11.1, s11.2.1)) [0, 1, 2, 3, 4, 5, 6, 7] rfl)) fun s34 =>
  (ST_pre (env' := [(6, .int (s11.2.2 + 1)), (7, va_rf message_21), (5, .int s34.1), (4, .int s34.2), (3, va_rf asked_3), (0, va_rf (some this)), (1, .int meeting_), (2, .int place_)]) (S_iinc 1 X dX6_proposalAt_78 rfl rfl (by rw [hN]; decide) rfl)
  (ST_done (upd := (fun (s : Int32 × Int32 × Int32) => [(6, .int s.2.2), (5, .int s.1), (4, .int s.2.1), (3, va_rf asked_3), (0, va_rf (some this)), (1, .int meeting_), (2, .int place_)])) (s := (s34.1, s34.2, (s11.2.2 + 1))) [0, 2, 3, 4, 5, 6, 7] rfl)))) fun _ mm a b h => S_goto X dX6_proposalAt_81 (by decide) [] mm a b h))) fun s35 =>
  (SB_retI X C hr dX6_proposalAt_86 (L_iload (x := s35.1) 1 X dX6_proposalAt_84 rfl)))))))) h (by rw [hR]; decide) (by rw [hR]; decide)
theorem dX6_rankIn_0 : decode cX6_rankIn 0 = .ok (.aload_n 1, 1) := by decide +kernel
theorem dX6_rankIn_1 : decode cX6_rankIn 1 = .ok (.iload_n 2, 1) := by decide +kernel
theorem dX6_rankIn_2 : decode cX6_rankIn 2 = .ok (.invokevirtual 269, 3) := by decide +kernel
theorem dX6_rankIn_5 : decode cX6_rankIn 5 = .ok (.astore 4, 2) := by decide +kernel
theorem dX6_rankIn_7 : decode cX6_rankIn 7 = .ok (.iconst 0, 1) := by decide +kernel
theorem dX6_rankIn_8 : decode cX6_rankIn 8 = .ok (.istore 5, 2) := by decide +kernel
theorem dX6_rankIn_10 : decode cX6_rankIn 10 = .ok (.iconst 0, 1) := by decide +kernel
theorem dX6_rankIn_11 : decode cX6_rankIn 11 = .ok (.istore 6, 2) := by decide +kernel
theorem dX6_rankIn_13 : decode cX6_rankIn 13 = .ok (.aload 4, 2) := by decide +kernel
theorem dX6_rankIn_15 : decode cX6_rankIn 15 = .ok (.ifnull 73, 3) := by decide +kernel
theorem dX6_rankIn_18 : decode cX6_rankIn 18 = .ok (.iload 6, 2) := by decide +kernel
theorem dX6_rankIn_20 : decode cX6_rankIn 20 = .ok (.aload 4, 2) := by decide +kernel
theorem dX6_rankIn_22 : decode cX6_rankIn 22 = .ok (.getfield 278, 3) := by decide +kernel
theorem dX6_rankIn_25 : decode cX6_rankIn 25 = .ok (.arraylength, 1) := by decide +kernel
theorem dX6_rankIn_26 : decode cX6_rankIn 26 = .ok (.if_icmp .ge 62, 3) := by decide +kernel
theorem dX6_rankIn_29 : decode cX6_rankIn 29 = .ok (.aload 4, 2) := by decide +kernel
theorem dX6_rankIn_31 : decode cX6_rankIn 31 = .ok (.getfield 278, 3) := by decide +kernel
theorem dX6_rankIn_34 : decode cX6_rankIn 34 = .ok (.iload 6, 2) := by decide +kernel
theorem dX6_rankIn_36 : decode cX6_rankIn 36 = .ok (.iaload, 1) := by decide +kernel
theorem dX6_rankIn_37 : decode cX6_rankIn 37 = .ok (.istore 7, 2) := by decide +kernel
theorem dX6_rankIn_39 : decode cX6_rankIn 39 = .ok (.aload 4, 2) := by decide +kernel
theorem dX6_rankIn_41 : decode cX6_rankIn 41 = .ok (.iload 7, 2) := by decide +kernel
theorem dX6_rankIn_43 : decode cX6_rankIn 43 = .ok (.invokevirtual 288, 3) := by decide +kernel
theorem dX6_rankIn_46 : decode cX6_rankIn 46 = .ok (.istore 8, 2) := by decide +kernel
theorem dX6_rankIn_48 : decode cX6_rankIn 48 = .ok (.iload 8, 2) := by decide +kernel
theorem dX6_rankIn_50 : decode cX6_rankIn 50 = .ok (.iload_n 3, 1) := by decide +kernel
theorem dX6_rankIn_51 : decode cX6_rankIn 51 = .ok (.if_icmp .gt 31, 3) := by decide +kernel
theorem dX6_rankIn_54 : decode cX6_rankIn 54 = .ok (.iload_n 3, 1) := by decide +kernel
theorem dX6_rankIn_55 : decode cX6_rankIn 55 = .ok (.iload 8, 2) := by decide +kernel
theorem dX6_rankIn_57 : decode cX6_rankIn 57 = .ok (.aload 4, 2) := by decide +kernel
theorem dX6_rankIn_59 : decode cX6_rankIn 59 = .ok (.getfield 405, 3) := by decide +kernel
theorem dX6_rankIn_62 : decode cX6_rankIn 62 = .ok (.iadd, 1) := by decide +kernel
theorem dX6_rankIn_63 : decode cX6_rankIn 63 = .ok (.if_icmp .ge 19, 3) := by decide +kernel
theorem dX6_rankIn_66 : decode cX6_rankIn 66 = .ok (.iload 5, 2) := by decide +kernel
theorem dX6_rankIn_68 : decode cX6_rankIn 68 = .ok (.aload_n 1, 1) := by decide +kernel
theorem dX6_rankIn_69 : decode cX6_rankIn 69 = .ok (.iload_n 2, 1) := by decide +kernel
theorem dX6_rankIn_70 : decode cX6_rankIn 70 = .ok (.aload 4, 2) := by decide +kernel
theorem dX6_rankIn_72 : decode cX6_rankIn 72 = .ok (.iload 7, 2) := by decide +kernel
theorem dX6_rankIn_74 : decode cX6_rankIn 74 = .ok (.invokevirtual 407, 3) := by decide +kernel
theorem dX6_rankIn_77 : decode cX6_rankIn 77 = .ok (.invokestatic 320, 3) := by decide +kernel
theorem dX6_rankIn_80 : decode cX6_rankIn 80 = .ok (.istore 5, 2) := by decide +kernel
theorem dX6_rankIn_82 : decode cX6_rankIn 82 = .ok (.iinc 6 1, 3) := by decide +kernel
theorem dX6_rankIn_85 : decode cX6_rankIn 85 = .ok (.goto (-72), 3) := by decide +kernel
theorem dX6_rankIn_88 : decode cX6_rankIn 88 = .ok (.iload 5, 2) := by decide +kernel
theorem dX6_rankIn_90 : decode cX6_rankIn 90 = .ok (.ireturn, 1) := by decide +kernel
theorem lk_X6_rankIn : LK yX6_rankIn cX6_rankIn 9 (some .int) 3 := ⟨qW_at 486 (by decide +kernel) rfl, qW_at 29 (by decide +kernel) rfl, by decide, by decide, by decide +kernel⟩
theorem im_X6_rankIn : Cond.instanceMethod yX6_rankIn ∈ qW := qW_at 485 (by decide +kernel) rfl
theorem se_X6_rankIn : Cond.selects RX6 yX6_rankIn yX6_rankIn ∈ qW := qW_at 7 (by decide +kernel) rfl
def F_X6_rankIn (this : Nat) (meeting_ : Option Nat) (person_ : Int32) (hour_ : Int32) : QX Int32 :=
  (xb (xb (xp meeting_) fun v1 => xb (xp person_) fun v2 => xo 1 v1 fun q => F_X0_versionThere q v2) fun held_3 =>
  (xb (xp (0 : Int32)) fun greatest_4 =>
  (xb (xp (0 : Int32)) fun place_5 =>
  (xb (xl 2000 (fun (s6 : Int32 × Int32) => (xb (xb (xp held_3) fun v7 => xp (decide (¬ v7 = none))) fun v12 => if v12 then (xb (xp s6.2) fun v8 => xb (xb (xb (xp held_3) fun v9 => xgr 5 11 v9) fun v10 => xlen v10) fun v11 => xp (decide (v8 < v11))) else xp false)) (fun (s6 : Int32 × Int32) =>
  (xb (xb (xb (xp held_3) fun v13 => xgr 5 11 v13) fun v14 => xb (xp s6.2) fun v15 => xai 0 v14 v15) fun day_16 =>
  (xb (xb (xp held_3) fun v17 => xb (xp day_16) fun v18 => xo 5 v17 fun q => F_X4_beginOf q v18) fun begin_19 =>
  (xb (xb (xb (xb (xp begin_19) fun v20 => xb (xp hour_) fun v21 => xp (decide (v20 ≤ v21))) fun v27 => if v27 then (xb (xp hour_) fun v22 => xb (xb (xp begin_19) fun v24 => xb (xb (xp held_3) fun v23 => xgi 5 4 v23) fun v25 => (xp (v24 + v25))) fun v26 => xp (decide (v22 < v26))) else xp false) fun v35 => if v35 then (xb (xb (xp s6.1) fun v32 => xb (xb (xp meeting_) fun v28 => xb (xp person_) fun v29 => xb (xp held_3) fun v30 => xb (xp day_16) fun v31 => xo 1 v28 fun q => F_X0_rankByDate q v29 v30 v31) fun v33 => xp (if v32 < v33 then v33 else v32)) fun greatest_34 =>
  (xp greatest_34)) else (xp s6.1)) fun s36 =>
  (xp (s36, (s6.2 + 1))))))) (greatest_4, place_5)) fun s37 =>
  (xp s37.1)))))
set_option maxRecDepth 100000 in
set_option maxHeartbeats 4000000 in
theorem M_X6_rankIn (this : Nat) (meeting_ : Option Nat) (person_ : Int32) (hour_ : Int32) : MM yX6_rankIn cX6_rankIn 9 (some .int) 4 90 0 0 encI [.ref this, va_rf meeting_, .int person_, .int hour_] (F_X6_rankIn this meeting_ person_ hour_) := by
  refine MM_of (env0 := [(0, va_rf (some this)), (1, va_rf meeting_), (2, .int person_), (3, .int hour_)]) (by decide) (by cases meeting_ <;> exact Nat.le_of_ble_eq_true rfl) (by cases meeting_ <;> rfl) (fun k mm res X C hR hN hr hname h => ?_)
  have X : CX k cX6_rankIn RX6 := X
  have hT : TH k (fun e m' => res = (.error e, m')) := TH_of C
  have htr := C.2.2.2.1
  unfold F_X6_rankIn at h
  exact SB_go (T := fun e m' => res = (.error e, m')) (RET := fun v m' => res = (.ok v, m')) (SB_let (XE_2 (pB := pR) wR (L_aload_n (r := meeting_) 1 X dX6_rankIn_0 rfl rfl) (L_iload_n (x := person_) 2 X dX6_rankIn_1 rfl rfl) (fun v0 v1 st mm a b hd hc hs h => g_callVo (st := st) (cI := 1) X hT htr rfl (fun q => M_X0_versionThere q v1) lk_X0_versionThere im_X0_versionThere se_X0_versionThere ml_X6_269 rfl (by rw [hR]; exact ⟨Nat.le_of_ble_eq_true rfl, Nat.le_of_ble_eq_true rfl⟩) (Nat.le_trans hd (by decide)) ⟨hc, hs⟩ dX6_rankIn_2 h)) (S_astore (ev := fun held_3 => [(4, va_rf held_3), (0, va_rf (some this)), (1, va_rf meeting_), (2, .int person_), (3, .int hour_)]) X dX6_rankIn_5 (by rw [hN]; decide) (fun _ => rfl)) fun held_3 =>
  (SB_let (L_iconst (v := 0) X dX6_rankIn_7 (by decide)) (S_istore (ev := fun greatest_4 => [(5, .int greatest_4), (4, va_rf held_3), (0, va_rf (some this)), (1, va_rf meeting_), (2, .int person_), (3, .int hour_)]) X dX6_rankIn_8 (by rw [hN]; decide) (fun _ => (by cases held_3 <;> rfl))) fun greatest_4 =>
  (SB_let (L_iconst (v := 0) X dX6_rankIn_10 (by decide)) (S_istore (ev := fun place_5 => [(6, .int place_5), (5, .int greatest_4), (4, va_rf held_3), (0, va_rf (some this)), (1, va_rf meeting_), (2, .int person_), (3, .int hour_)]) X dX6_rankIn_11 (by rw [hN]; decide) (fun _ => rfl)) fun place_5 =>
  (SB_seq (ST_loop (σ := Int32 × Int32) (upd := (fun (s : Int32 × Int32) => [(6, .int s.2), (5, .int s.1), (4, va_rf held_3), (0, va_rf (some this)), (1, va_rf meeting_), (2, .int person_), (3, .int hour_)])) (s0 := (greatest_4, place_5)) (n := 2000) (fun mm a b h => GG_sub [0, 1, 2, 3, 4, 5, 6] rfl h)
  (fun s6 => (CE_and (CE_1 (L_aload (r := held_3) 2 X dX6_rankIn_13 rfl) (N_ne_F X dX6_rankIn_15 (by decide))) (CE_2 wI (L_iload (x := s6.2) 0 X dX6_rankIn_18 rfl) (XE_1 (XE_1 (L_aload (r := held_3) 2 X dX6_rankIn_20 rfl) (O_gr (c := 5) (j := 11) X rfl inW4 (by decide) fl_X6_278 rfl dX6_rankIn_22)) (O_len X dX6_rankIn_25)) (C_lt_F X dX6_rankIn_26 (by decide)))))
  (fun s6 => (ST_post (ST_let (XE_2 wR (XE_1 (L_aload (r := held_3) 2 X dX6_rankIn_29 rfl) (O_gr (c := 5) (j := 11) X rfl inW4 (by decide) fl_X6_278 rfl dX6_rankIn_31)) (L_iload (x := s6.2) 0 X dX6_rankIn_34 rfl) (O_ai X dX6_rankIn_36)) (S_istore (ev := fun day_16 => [(7, .int day_16), (6, .int s6.2), (5, .int s6.1), (4, va_rf held_3), (0, va_rf (some this)), (1, va_rf meeting_), (2, .int person_), (3, .int hour_)]) X dX6_rankIn_37 (by rw [hN]; decide) (fun _ => rfl)) fun day_16 =>
  (ST_let (XE_2 (pB := pI) wR (L_aload (r := held_3) 3 X dX6_rankIn_39 rfl) (L_iload (x := day_16) 0 X dX6_rankIn_41 rfl) (fun v0 v1 st mm a b hd hc hs h => g_callVo (st := st) (cI := 5) X hT htr rfl (fun q => M_X4_beginOf q v1) lk_X4_beginOf im_X4_beginOf se_X4_beginOf ml_X6_288 rfl (by rw [hR]; exact ⟨Nat.le_of_ble_eq_true rfl, Nat.le_of_ble_eq_true rfl⟩) (Nat.le_trans hd (by decide)) ⟨hc, hs⟩ dX6_rankIn_43 h)) (S_istore (ev := fun begin_19 => [(8, .int begin_19), (7, .int day_16), (6, .int s6.2), (5, .int s6.1), (4, va_rf held_3), (0, va_rf (some this)), (1, va_rf meeting_), (2, .int person_), (3, .int hour_)]) X dX6_rankIn_46 (by rw [hN]; decide) (fun _ => rfl)) fun begin_19 =>
  (ST_seq (ST_if (CE_and (CE_2 wI (L_iload (x := begin_19) 0 X dX6_rankIn_48 rfl) (L_iload_n (x := hour_) 8 X dX6_rankIn_50 rfl rfl) (C_le_F X dX6_rankIn_51 (by decide))) (CE_2 wI (L_iload_n (x := hour_) 8 X dX6_rankIn_54 rfl rfl) (XE_2 wI (L_iload (x := begin_19) 0 X dX6_rankIn_55 rfl) (XE_1 (L_aload (r := held_3) 4 X dX6_rankIn_57 rfl) (O_gi (c := 5) (j := 4) X rfl inW4 (by decide) fl_X6_405 rfl dX6_rankIn_59)) (O_iadd X dX6_rankIn_62)) (C_lt_F X dX6_rankIn_63 (by decide))))
  (ST_let (XE_2 (pB := pI) (f := fun x y => xp (if x < y then y else x)) wI (L_iload (x := s6.1) 3 X dX6_rankIn_66 rfl) (XE_4 (pB := pI) wR wI wR (L_aload_n (r := meeting_) 6 X dX6_rankIn_68 rfl rfl) (L_iload_n (x := person_) 7 X dX6_rankIn_69 rfl rfl) (L_aload (r := held_3) 4 X dX6_rankIn_70 rfl) (L_iload (x := day_16) 1 X dX6_rankIn_72 rfl) (fun v0 v1 v2 v3 st mm a b hd hc hs h => g_callVo (st := st) (cI := 1) X hT htr rfl (fun q => M_X0_rankByDate q v1 v2 v3) lk_X0_rankByDate im_X0_rankByDate se_X0_rankByDate ml_X6_407 rfl (by rw [hR]; exact ⟨Nat.le_of_ble_eq_true rfl, Nat.le_of_ble_eq_true rfl⟩) (Nat.le_trans hd (by decide)) ⟨hc, hs⟩ dX6_rankIn_74 h)) (O_max X ml_X6_320 mx_st mx_in mx_co (by rw [hR]; exact Nat.le_of_ble_eq_true rfl) (by decide) (by rw [hR]; exact Nat.le_of_ble_eq_true rfl) dX6_rankIn_77)) (S_istore (ev := fun greatest_34 => [(5, .int greatest_34), (8, .int begin_19), (7, .int day_16), (6, .int s6.2), (4, va_rf held_3), (0, va_rf (some this)), (1, va_rf meeting_), (2, .int person_), (3, .int hour_)]) X dX6_rankIn_80 (by rw [hN]; decide) (fun _ => (by cases held_3 <;> rfl))) fun greatest_34 =>
  (ST_done (upd := (fun (s : Int32) => [(8, .int begin_19), (7, .int day_16), (6, .int s6.2), (5, .int s), (4, va_rf held_3), (0, va_rf (some this)), (1, va_rf meeting_), (2, .int person_), (3, .int hour_)])) (s := greatest_34) [1, 2, 3, 0, 4, 5, 6, 7, 8] rfl))
  (ST_done (upd := (fun (s : Int32) => [(8, .int begin_19), (7, .int day_16), (6, .int s6.2), (5, .int s), (4, va_rf held_3), (0, va_rf (some this)), (1, va_rf meeting_), (2, .int person_), (3, .int hour_)])) (s := s6.1) [0, 1, 2, 3, 4, 5, 6, 7, 8] rfl)) fun s36 =>
  (ST_pre (env' := [(6, .int (s6.2 + 1)), (8, .int begin_19), (7, .int day_16), (5, .int s36), (4, va_rf held_3), (0, va_rf (some this)), (1, va_rf meeting_), (2, .int person_), (3, .int hour_)]) (S_iinc 2 X dX6_rankIn_82 rfl rfl (by rw [hN]; decide) rfl)
  (ST_done (upd := (fun (s : Int32 × Int32) => [(6, .int s.2), (5, .int s.1), (4, va_rf held_3), (0, va_rf (some this)), (1, va_rf meeting_), (2, .int person_), (3, .int hour_)])) (s := (s36, (s6.2 + 1))) [0, 3, 4, 5, 6, 7, 8] rfl))))) fun _ mm a b h => S_goto X dX6_rankIn_85 (by decide) [] mm a b h))) fun s37 =>
  (SB_retI X C hr dX6_rankIn_90 (L_iload (x := s37.1) 1 X dX6_rankIn_88 rfl)))))) h (by rw [hR]; decide) (by rw [hR]; decide)
theorem dX6_rank_0 : decode cX6_rank 0 = .ok (.iload_n 1, 1) := by decide +kernel
theorem dX6_rank_1 : decode cX6_rank 1 = .ok (.invokestatic 72, 3) := by decide +kernel
theorem dX6_rank_4 : decode cX6_rank 4 = .ok (.iload_n 2, 1) := by decide +kernel
theorem dX6_rank_5 : decode cX6_rank 5 = .ok (.bipush (-48), 2) := by decide +kernel
theorem dX6_rank_7 : decode cX6_rank 7 = .ok (.sipush 1600, 3) := by decide +kernel
theorem dX6_rank_10 : decode cX6_rank 10 = .ok (.invokestatic 47, 3) := by decide +kernel
theorem dX6_rank_13 : decode cX6_rank 13 = .ok (.iconst 0, 1) := by decide +kernel
theorem dX6_rank_14 : decode cX6_rank 14 = .ok (.istore_n 3, 1) := by decide +kernel
theorem dX6_rank_15 : decode cX6_rank 15 = .ok (.iconst 0, 1) := by decide +kernel
theorem dX6_rank_16 : decode cX6_rank 16 = .ok (.istore 4, 2) := by decide +kernel
theorem dX6_rank_18 : decode cX6_rank 18 = .ok (.iload 4, 2) := by decide +kernel
theorem dX6_rank_20 : decode cX6_rank 20 = .ok (.aload_n 0, 1) := by decide +kernel
theorem dX6_rank_21 : decode cX6_rank 21 = .ok (.getfield 78, 3) := by decide +kernel
theorem dX6_rank_24 : decode cX6_rank 24 = .ok (.if_icmp .ge 27, 3) := by decide +kernel
theorem dX6_rank_27 : decode cX6_rank 27 = .ok (.iload_n 3, 1) := by decide +kernel
theorem dX6_rank_28 : decode cX6_rank 28 = .ok (.aload_n 0, 1) := by decide +kernel
theorem dX6_rank_29 : decode cX6_rank 29 = .ok (.aload_n 0, 1) := by decide +kernel
theorem dX6_rank_30 : decode cX6_rank 30 = .ok (.getfield 23, 3) := by decide +kernel
theorem dX6_rank_33 : decode cX6_rank 33 = .ok (.iload 4, 2) := by decide +kernel
theorem dX6_rank_35 : decode cX6_rank 35 = .ok (.aaload, 1) := by decide +kernel
theorem dX6_rank_36 : decode cX6_rank 36 = .ok (.iload_n 1, 1) := by decide +kernel
theorem dX6_rank_37 : decode cX6_rank 37 = .ok (.iload_n 2, 1) := by decide +kernel
theorem dX6_rank_38 : decode cX6_rank 38 = .ok (.invokevirtual 316, 3) := by decide +kernel
theorem dX6_rank_41 : decode cX6_rank 41 = .ok (.invokestatic 320, 3) := by decide +kernel
theorem dX6_rank_44 : decode cX6_rank 44 = .ok (.istore_n 3, 1) := by decide +kernel
theorem dX6_rank_45 : decode cX6_rank 45 = .ok (.iinc 4 1, 3) := by decide +kernel
theorem dX6_rank_48 : decode cX6_rank 48 = .ok (.goto (-30), 3) := by decide +kernel
theorem dX6_rank_51 : decode cX6_rank 51 = .ok (.iload_n 3, 1) := by decide +kernel
theorem dX6_rank_52 : decode cX6_rank 52 = .ok (.ireturn, 1) := by decide +kernel
theorem lk_X6_rank : LK yX6_rank cX6_rank 5 (some .int) 2 := ⟨qW_at 482 (by decide +kernel) rfl, qW_at 29 (by decide +kernel) rfl, by decide, by decide, by decide +kernel⟩
theorem im_X6_rank : Cond.instanceMethod yX6_rank ∈ qW := qW_at 480 (by decide +kernel) rfl
theorem se_X6_rank : Cond.selects RX6 yX6_rank yX6_rank ∈ qW := qW_at 481 (by decide +kernel) rfl
def F_X6_rank (this : Nat) (person_ : Int32) (hour_ : Int32) : QX Int32 :=
  (xb (xb (xp person_) fun v1 => F_X6_needPerson v1) fun _ =>
  (xb (xb (xp hour_) fun v2 => xb (xp (-48 : Int32)) fun v3 => xb (xp (1600 : Int32)) fun v4 => F_X6_needRange v2 v3 v4) fun _ =>
  (xb (xp (0 : Int32)) fun greatest_5 =>
  (xb (xp (0 : Int32)) fun number_6 =>
  (xb (xl 2000 (fun (s7 : Int32 × Int32) => (xb (xp s7.2) fun v8 => xb (xb (xp (some this)) fun v9 => xgi 7 4 v9) fun v10 => xp (decide (v8 < v10)))) (fun (s7 : Int32 × Int32) =>
  (xb (xb (xp s7.1) fun v18 => xb (xb (xp (some this)) fun v14 => xb (xb (xb (xp (some this)) fun v11 => xgr 7 2 v11) fun v12 => xb (xp s7.2) fun v13 => xar 1 v12 v13) fun v15 => xb (xp person_) fun v16 => xb (xp hour_) fun v17 => xo 7 v14 fun q => F_X6_rankIn q v15 v16 v17) fun v19 => xp (if v18 < v19 then v19 else v18)) fun greatest_20 =>
  (xp (greatest_20, (s7.2 + 1))))) (greatest_5, number_6)) fun s21 =>
  (xp s21.1))))))
set_option maxRecDepth 100000 in
set_option maxHeartbeats 4000000 in
theorem M_X6_rank (this : Nat) (person_ : Int32) (hour_ : Int32) : MM yX6_rank cX6_rank 5 (some .int) 8 123 2 12 encI [.ref this, .int person_, .int hour_] (F_X6_rank this person_ hour_) := by
  refine MM_of (env0 := [(0, va_rf (some this)), (1, .int person_), (2, .int hour_)]) (by decide) (by exact Nat.le_of_ble_eq_true rfl) (by rfl) (fun k mm res X C hR hN hr hname h => ?_)
  have X : CX k cX6_rank RX6 := X
  have hT : TH k (fun e m' => res = (.error e, m')) := TH_of C
  have htr := C.2.2.2.1
  unfold F_X6_rank at h
  exact SB_go (T := fun e m' => res = (.error e, m')) (RET := fun v m' => res = (.ok v, m')) (SB_do (XE_1 (pB := pU)  (L_iload_n (x := person_) 1 X dX6_rank_0 rfl rfl) (fun v0 st mm a b hd hc hs h => g_callS (st := st) X hT htr (M_X6_needPerson v0) lk_X6_needPerson st_X6_needPerson ml_X6_72 rfl (by rw [hR]; exact ⟨Nat.le_of_ble_eq_true rfl, Nat.le_of_ble_eq_true rfl⟩) (Nat.le_trans hd (by decide)) ⟨hc, hs⟩ dX6_rank_1 h))
  (SB_do (XE_3 (pB := pU) wI wI (L_iload_n (x := hour_) 2 X dX6_rank_4 rfl rfl) (L_bipush (v := (-48)) X dX6_rank_5 (by decide)) (L_sipush (v := (1600)) X dX6_rank_7 (by decide)) (fun v0 v1 v2 st mm a b hd hc hs h => g_callS (st := st) X hT htr (M_X6_needRange v0 v1 v2) lk_X6_needRange st_X6_needRange ml_X6_47 rfl (by rw [hR]; exact ⟨Nat.le_of_ble_eq_true rfl, Nat.le_of_ble_eq_true rfl⟩) (Nat.le_trans hd (by decide)) ⟨hc, hs⟩ dX6_rank_10 h))
  (SB_let (L_iconst (v := 0) X dX6_rank_13 (by decide)) (S_istore_n (ev := fun greatest_5 => [(3, .int greatest_5), (0, va_rf (some this)), (1, .int person_), (2, .int hour_)]) X dX6_rank_14 rfl (by rw [hN]; decide) (fun _ => rfl)) fun greatest_5 =>
  (SB_let (L_iconst (v := 0) X dX6_rank_15 (by decide)) (S_istore (ev := fun number_6 => [(4, .int number_6), (3, .int greatest_5), (0, va_rf (some this)), (1, .int person_), (2, .int hour_)]) X dX6_rank_16 (by rw [hN]; decide) (fun _ => rfl)) fun number_6 =>
  (SB_seq (ST_loop (σ := Int32 × Int32) (upd := (fun (s : Int32 × Int32) => [(4, .int s.2), (3, .int s.1), (0, va_rf (some this)), (1, .int person_), (2, .int hour_)])) (s0 := (greatest_5, number_6)) (n := 2000) (fun mm a b h => GG_sub [0, 1, 2, 3, 4] rfl h)
  (fun s7 => (CE_2 wI (L_iload (x := s7.2) 0 X dX6_rank_18 rfl) (XE_1 (L_aload_n (r := (some this)) 2 X dX6_rank_20 rfl rfl) (O_gi (c := 7) (j := 4) X rfl inW6 (by decide) fl_X6_78 rfl dX6_rank_21)) (C_lt_F X dX6_rank_24 (by decide))))
  (fun s7 => (ST_post (ST_let (XE_2 (pB := pI) (f := fun x y => xp (if x < y then y else x)) wI (L_iload_n (x := s7.1) 1 X dX6_rank_27 rfl rfl) (XE_4 (pB := pI) wR wR wI (L_aload_n (r := (some this)) 2 X dX6_rank_28 rfl rfl) (XE_2 wR (XE_1 (L_aload_n (r := (some this)) 2 X dX6_rank_29 rfl rfl) (O_gr (c := 7) (j := 2) X rfl inW6 (by decide) fl_X6_23 rfl dX6_rank_30)) (L_iload (x := s7.2) 0 X dX6_rank_33 rfl) (O_ar (c := 1) X (by decide) rfl dX6_rank_35)) (L_iload_n (x := person_) 3 X dX6_rank_36 rfl rfl) (L_iload_n (x := hour_) 4 X dX6_rank_37 rfl rfl) (fun v0 v1 v2 v3 st mm a b hd hc hs h => g_callVo (st := st) (cI := 7) X hT htr rfl (fun q => M_X6_rankIn q v1 v2 v3) lk_X6_rankIn im_X6_rankIn se_X6_rankIn ml_X6_316 rfl (by rw [hR]; exact ⟨Nat.le_of_ble_eq_true rfl, Nat.le_of_ble_eq_true rfl⟩) (Nat.le_trans hd (by decide)) ⟨hc, hs⟩ dX6_rank_38 h)) (O_max X ml_X6_320 mx_st mx_in mx_co (by rw [hR]; exact Nat.le_of_ble_eq_true rfl) (by decide) (by rw [hR]; exact Nat.le_of_ble_eq_true rfl) dX6_rank_41)) (S_istore_n (ev := fun greatest_20 => [(3, .int greatest_20), (4, .int s7.2), (0, va_rf (some this)), (1, .int person_), (2, .int hour_)]) X dX6_rank_44 rfl (by rw [hN]; decide) (fun _ => rfl)) fun greatest_20 =>
  (ST_pre (env' := [(4, .int (s7.2 + 1)), (3, .int greatest_20), (0, va_rf (some this)), (1, .int person_), (2, .int hour_)]) (S_iinc 1 X dX6_rank_45 rfl rfl (by rw [hN]; decide) rfl)
  (ST_done (upd := (fun (s : Int32 × Int32) => [(4, .int s.2), (3, .int s.1), (0, va_rf (some this)), (1, .int person_), (2, .int hour_)])) (s := (greatest_20, (s7.2 + 1))) [0, 1, 2, 3, 4] rfl))) fun _ mm a b h => S_goto X dX6_rank_48 (by decide) [] mm a b h))) fun s21 =>
  (SB_retI X C hr dX6_rank_52 (L_iload_n (x := s21.1) 1 X dX6_rank_51 rfl rfl))))))) h (by rw [hR]; decide) (by rw [hR]; decide)
theorem dX6_needSearch_0 : decode cX6_needSearch 0 = .ok (.iload_n 0, 1) := by decide +kernel
theorem dX6_needSearch_1 : decode cX6_needSearch 1 = .ok (.iconst 1, 1) := by decide +kernel
theorem dX6_needSearch_2 : decode cX6_needSearch 2 = .ok (.bipush 31, 2) := by decide +kernel
theorem dX6_needSearch_4 : decode cX6_needSearch 4 = .ok (.invokestatic 47, 3) := by decide +kernel
theorem dX6_needSearch_7 : decode cX6_needSearch 7 = .ok (.iload_n 1, 1) := by decide +kernel
theorem dX6_needSearch_8 : decode cX6_needSearch 8 = .ok (.bipush (-48), 2) := by decide +kernel
theorem dX6_needSearch_10 : decode cX6_needSearch 10 = .ok (.sipush 1500, 3) := by decide +kernel
theorem dX6_needSearch_13 : decode cX6_needSearch 13 = .ok (.invokestatic 47, 3) := by decide +kernel
theorem dX6_needSearch_16 : decode cX6_needSearch 16 = .ok (.iload_n 2, 1) := by decide +kernel
theorem dX6_needSearch_17 : decode cX6_needSearch 17 = .ok (.iconst 1, 1) := by decide +kernel
theorem dX6_needSearch_18 : decode cX6_needSearch 18 = .ok (.bipush 48, 2) := by decide +kernel
theorem dX6_needSearch_20 : decode cX6_needSearch 20 = .ok (.invokestatic 47, 3) := by decide +kernel
theorem dX6_needSearch_23 : decode cX6_needSearch 23 = .ok (.return_, 1) := by decide +kernel
theorem lk_X6_needSearch : LK yX6_needSearch cX6_needSearch 3 none 3 := ⟨qW_at 160 (by decide +kernel) rfl, qW_at 29 (by decide +kernel) rfl, by decide, by decide, by decide +kernel⟩
theorem st_X6_needSearch : Cond.static yX6_needSearch ∈ qW := qW_at 159 (by decide +kernel) rfl
def F_X6_needSearch (people_ : Int32) (from_ : Int32) (length_ : Int32) : QX Unit :=
  (xb (xb (xp people_) fun v1 => xb (xp (1 : Int32)) fun v2 => xb (xp (31 : Int32)) fun v3 => F_X6_needRange v1 v2 v3) fun _ =>
  (xb (xb (xp from_) fun v4 => xb (xp (-48 : Int32)) fun v5 => xb (xp (1500 : Int32)) fun v6 => F_X6_needRange v4 v5 v6) fun _ =>
  (xb (xb (xp length_) fun v7 => xb (xp (1 : Int32)) fun v8 => xb (xp (48 : Int32)) fun v9 => F_X6_needRange v7 v8 v9) fun _ =>
  (xp ()))))
set_option maxRecDepth 100000 in
set_option maxHeartbeats 4000000 in
theorem M_X6_needSearch (people_ : Int32) (from_ : Int32) (length_ : Int32) : MM yX6_needSearch cX6_needSearch 3 none 8 123 3 18 encU [.int people_, .int from_, .int length_] (F_X6_needSearch people_ from_ length_) := by
  refine MM_of (env0 := [(0, .int people_), (1, .int from_), (2, .int length_)]) (by decide) (by exact Nat.le_of_ble_eq_true rfl) (by rfl) (fun k mm res X C hR hN hr hname h => ?_)
  have X : CX k cX6_needSearch RX6 := X
  have hT : TH k (fun e m' => res = (.error e, m')) := TH_of C
  have htr := C.2.2.2.1
  unfold F_X6_needSearch at h
  exact SB_go (T := fun e m' => res = (.error e, m')) (RET := fun v m' => res = (.ok v, m')) (SB_do (XE_3 (pB := pU) wI wI (L_iload_n (x := people_) 0 X dX6_needSearch_0 rfl rfl) (L_iconst (v := 1) X dX6_needSearch_1 (by decide)) (L_bipush (v := (31)) X dX6_needSearch_2 (by decide)) (fun v0 v1 v2 st mm a b hd hc hs h => g_callS (st := st) X hT htr (M_X6_needRange v0 v1 v2) lk_X6_needRange st_X6_needRange ml_X6_47 rfl (by rw [hR]; exact ⟨Nat.le_of_ble_eq_true rfl, Nat.le_of_ble_eq_true rfl⟩) (Nat.le_trans hd (by decide)) ⟨hc, hs⟩ dX6_needSearch_4 h))
  (SB_do (XE_3 (pB := pU) wI wI (L_iload_n (x := from_) 1 X dX6_needSearch_7 rfl rfl) (L_bipush (v := (-48)) X dX6_needSearch_8 (by decide)) (L_sipush (v := (1500)) X dX6_needSearch_10 (by decide)) (fun v0 v1 v2 st mm a b hd hc hs h => g_callS (st := st) X hT htr (M_X6_needRange v0 v1 v2) lk_X6_needRange st_X6_needRange ml_X6_47 rfl (by rw [hR]; exact ⟨Nat.le_of_ble_eq_true rfl, Nat.le_of_ble_eq_true rfl⟩) (Nat.le_trans hd (by decide)) ⟨hc, hs⟩ dX6_needSearch_13 h))
  (SB_do (XE_3 (pB := pU) wI wI (L_iload_n (x := length_) 2 X dX6_needSearch_16 rfl rfl) (L_iconst (v := 1) X dX6_needSearch_17 (by decide)) (L_bipush (v := (48)) X dX6_needSearch_18 (by decide)) (fun v0 v1 v2 st mm a b hd hc hs h => g_callS (st := st) X hT htr (M_X6_needRange v0 v1 v2) lk_X6_needRange st_X6_needRange ml_X6_47 rfl (by rw [hR]; exact ⟨Nat.le_of_ble_eq_true rfl, Nat.le_of_ble_eq_true rfl⟩) (Nat.le_trans hd (by decide)) ⟨hc, hs⟩ dX6_needSearch_20 h))
  (SB_retU X C hr dX6_needSearch_23)))) h (by rw [hR]; decide) (by rw [hR]; decide)
theorem dX6_behindBusyIn_0 : decode cX6_behindBusyIn 0 = .ok (.aload_n 1, 1) := by decide +kernel
theorem dX6_behindBusyIn_1 : decode cX6_behindBusyIn 1 = .ok (.iload_n 2, 1) := by decide +kernel
theorem dX6_behindBusyIn_2 : decode cX6_behindBusyIn 2 = .ok (.invokevirtual 269, 3) := by decide +kernel
theorem dX6_behindBusyIn_5 : decode cX6_behindBusyIn 5 = .ok (.astore 5, 2) := by decide +kernel
theorem dX6_behindBusyIn_7 : decode cX6_behindBusyIn 7 = .ok (.iload_n 3, 1) := by decide +kernel
theorem dX6_behindBusyIn_8 : decode cX6_behindBusyIn 8 = .ok (.istore 6, 2) := by decide +kernel
theorem dX6_behindBusyIn_10 : decode cX6_behindBusyIn 10 = .ok (.iconst 0, 1) := by decide +kernel
theorem dX6_behindBusyIn_11 : decode cX6_behindBusyIn 11 = .ok (.istore 7, 2) := by decide +kernel
theorem dX6_behindBusyIn_13 : decode cX6_behindBusyIn 13 = .ok (.aload 5, 2) := by decide +kernel
theorem dX6_behindBusyIn_15 : decode cX6_behindBusyIn 15 = .ok (.ifnull 82, 3) := by decide +kernel
theorem dX6_behindBusyIn_18 : decode cX6_behindBusyIn 18 = .ok (.iload 7, 2) := by decide +kernel
theorem dX6_behindBusyIn_20 : decode cX6_behindBusyIn 20 = .ok (.aload 5, 2) := by decide +kernel
theorem dX6_behindBusyIn_22 : decode cX6_behindBusyIn 22 = .ok (.getfield 278, 3) := by decide +kernel
theorem dX6_behindBusyIn_25 : decode cX6_behindBusyIn 25 = .ok (.arraylength, 1) := by decide +kernel
theorem dX6_behindBusyIn_26 : decode cX6_behindBusyIn 26 = .ok (.if_icmp .ge 71, 3) := by decide +kernel
theorem dX6_behindBusyIn_29 : decode cX6_behindBusyIn 29 = .ok (.aload 5, 2) := by decide +kernel
theorem dX6_behindBusyIn_31 : decode cX6_behindBusyIn 31 = .ok (.getfield 278, 3) := by decide +kernel
theorem dX6_behindBusyIn_34 : decode cX6_behindBusyIn 34 = .ok (.iload 7, 2) := by decide +kernel
theorem dX6_behindBusyIn_36 : decode cX6_behindBusyIn 36 = .ok (.iaload, 1) := by decide +kernel
theorem dX6_behindBusyIn_37 : decode cX6_behindBusyIn 37 = .ok (.istore 8, 2) := by decide +kernel
theorem dX6_behindBusyIn_39 : decode cX6_behindBusyIn 39 = .ok (.aload 5, 2) := by decide +kernel
theorem dX6_behindBusyIn_41 : decode cX6_behindBusyIn 41 = .ok (.iload 8, 2) := by decide +kernel
theorem dX6_behindBusyIn_43 : decode cX6_behindBusyIn 43 = .ok (.invokevirtual 288, 3) := by decide +kernel
theorem dX6_behindBusyIn_46 : decode cX6_behindBusyIn 46 = .ok (.istore 9, 2) := by decide +kernel
theorem dX6_behindBusyIn_48 : decode cX6_behindBusyIn 48 = .ok (.iload 9, 2) := by decide +kernel
theorem dX6_behindBusyIn_50 : decode cX6_behindBusyIn 50 = .ok (.aload 5, 2) := by decide +kernel
theorem dX6_behindBusyIn_52 : decode cX6_behindBusyIn 52 = .ok (.getfield 405, 3) := by decide +kernel
theorem dX6_behindBusyIn_55 : decode cX6_behindBusyIn 55 = .ok (.iadd, 1) := by decide +kernel
theorem dX6_behindBusyIn_56 : decode cX6_behindBusyIn 56 = .ok (.istore 10, 2) := by decide +kernel
theorem dX6_behindBusyIn_58 : decode cX6_behindBusyIn 58 = .ok (.iload 9, 2) := by decide +kernel
theorem dX6_behindBusyIn_60 : decode cX6_behindBusyIn 60 = .ok (.iload_n 3, 1) := by decide +kernel
theorem dX6_behindBusyIn_61 : decode cX6_behindBusyIn 61 = .ok (.iload 4, 2) := by decide +kernel
theorem dX6_behindBusyIn_63 : decode cX6_behindBusyIn 63 = .ok (.iadd, 1) := by decide +kernel
theorem dX6_behindBusyIn_64 : decode cX6_behindBusyIn 64 = .ok (.if_icmp .ge 27, 3) := by decide +kernel
theorem dX6_behindBusyIn_67 : decode cX6_behindBusyIn 67 = .ok (.iload 10, 2) := by decide +kernel
theorem dX6_behindBusyIn_69 : decode cX6_behindBusyIn 69 = .ok (.iload 6, 2) := by decide +kernel
theorem dX6_behindBusyIn_71 : decode cX6_behindBusyIn 71 = .ok (.if_icmp .le 20, 3) := by decide +kernel
theorem dX6_behindBusyIn_74 : decode cX6_behindBusyIn 74 = .ok (.aload_n 1, 1) := by decide +kernel
theorem dX6_behindBusyIn_75 : decode cX6_behindBusyIn 75 = .ok (.iload_n 2, 1) := by decide +kernel
theorem dX6_behindBusyIn_76 : decode cX6_behindBusyIn 76 = .ok (.aload 5, 2) := by decide +kernel
theorem dX6_behindBusyIn_78 : decode cX6_behindBusyIn 78 = .ok (.iload 8, 2) := by decide +kernel
theorem dX6_behindBusyIn_80 : decode cX6_behindBusyIn 80 = .ok (.invokevirtual 407, 3) := by decide +kernel
theorem dX6_behindBusyIn_83 : decode cX6_behindBusyIn 83 = .ok (.iconst 2, 1) := by decide +kernel
theorem dX6_behindBusyIn_84 : decode cX6_behindBusyIn 84 = .ok (.if_icmp .ne 7, 3) := by decide +kernel
theorem dX6_behindBusyIn_87 : decode cX6_behindBusyIn 87 = .ok (.iload 10, 2) := by decide +kernel
theorem dX6_behindBusyIn_89 : decode cX6_behindBusyIn 89 = .ok (.istore 6, 2) := by decide +kernel
theorem dX6_behindBusyIn_91 : decode cX6_behindBusyIn 91 = .ok (.iinc 7 1, 3) := by decide +kernel
theorem dX6_behindBusyIn_94 : decode cX6_behindBusyIn 94 = .ok (.goto (-81), 3) := by decide +kernel
theorem dX6_behindBusyIn_97 : decode cX6_behindBusyIn 97 = .ok (.iload 6, 2) := by decide +kernel
theorem dX6_behindBusyIn_99 : decode cX6_behindBusyIn 99 = .ok (.ireturn, 1) := by decide +kernel
theorem lk_X6_behindBusyIn : LK yX6_behindBusyIn cX6_behindBusyIn 11 (some .int) 4 := ⟨qW_at 240 (by decide +kernel) rfl, qW_at 29 (by decide +kernel) rfl, by decide, by decide, by decide +kernel⟩
theorem im_X6_behindBusyIn : Cond.instanceMethod yX6_behindBusyIn ∈ qW := qW_at 239 (by decide +kernel) rfl
theorem se_X6_behindBusyIn : Cond.selects RX6 yX6_behindBusyIn yX6_behindBusyIn ∈ qW := qW_at 2 (by decide +kernel) rfl
def F_X6_behindBusyIn (this : Nat) (meeting_ : Option Nat) (person_ : Int32) (hour_ : Int32) (length_ : Int32) : QX Int32 :=
  (xb (xb (xp meeting_) fun v1 => xb (xp person_) fun v2 => xo 1 v1 fun q => F_X0_versionThere q v2) fun held_3 =>
  (xb (xp hour_) fun latest_4 =>
  (xb (xp (0 : Int32)) fun place_5 =>
  (xb (xl 2000 (fun (s6 : Int32 × Int32) => (xb (xb (xp held_3) fun v7 => xp (decide (¬ v7 = none))) fun v12 => if v12 then (xb (xp s6.2) fun v8 => xb (xb (xb (xp held_3) fun v9 => xgr 5 11 v9) fun v10 => xlen v10) fun v11 => xp (decide (v8 < v11))) else xp false)) (fun (s6 : Int32 × Int32) =>
  (xb (xb (xb (xp held_3) fun v13 => xgr 5 11 v13) fun v14 => xb (xp s6.2) fun v15 => xai 0 v14 v15) fun day_16 =>
  (xb (xb (xp held_3) fun v17 => xb (xp day_16) fun v18 => xo 5 v17 fun q => F_X4_beginOf q v18) fun begin_19 =>
  (xb (xb (xp begin_19) fun v21 => xb (xb (xp held_3) fun v20 => xgi 5 4 v20) fun v22 => (xp (v21 + v22))) fun end_23 =>
  (xb (xb (xb (xb (xb (xp begin_19) fun v24 => xb (xb (xp hour_) fun v25 => xb (xp length_) fun v26 => (xp (v25 + v26))) fun v27 => xp (decide (v24 < v27))) fun v30 => if v30 then (xb (xp end_23) fun v28 => xb (xp s6.1) fun v29 => xp (decide (v29 < v28))) else xp false) fun v37 => if v37 then (xb (xb (xp meeting_) fun v31 => xb (xp person_) fun v32 => xb (xp held_3) fun v33 => xb (xp day_16) fun v34 => xo 1 v31 fun q => F_X0_rankByDate q v32 v33 v34) fun v35 => xb (xp (2 : Int32)) fun v36 => xp (decide (v35 = v36))) else xp false) fun v39 => if v39 then (xb (xp end_23) fun latest_38 =>
  (xp latest_38)) else (xp s6.1)) fun s40 =>
  (xp (s40, (s6.2 + 1)))))))) (latest_4, place_5)) fun s41 =>
  (xp s41.1)))))
set_option maxRecDepth 100000 in
set_option maxHeartbeats 4000000 in
theorem M_X6_behindBusyIn (this : Nat) (meeting_ : Option Nat) (person_ : Int32) (hour_ : Int32) (length_ : Int32) : MM yX6_behindBusyIn cX6_behindBusyIn 11 (some .int) 4 90 0 0 encI [.ref this, va_rf meeting_, .int person_, .int hour_, .int length_] (F_X6_behindBusyIn this meeting_ person_ hour_ length_) := by
  refine MM_of (env0 := [(0, va_rf (some this)), (1, va_rf meeting_), (2, .int person_), (3, .int hour_), (4, .int length_)]) (by decide) (by cases meeting_ <;> exact Nat.le_of_ble_eq_true rfl) (by cases meeting_ <;> rfl) (fun k mm res X C hR hN hr hname h => ?_)
  have X : CX k cX6_behindBusyIn RX6 := X
  have hT : TH k (fun e m' => res = (.error e, m')) := TH_of C
  have htr := C.2.2.2.1
  unfold F_X6_behindBusyIn at h
  exact SB_go (T := fun e m' => res = (.error e, m')) (RET := fun v m' => res = (.ok v, m')) (SB_let (XE_2 (pB := pR) wR (L_aload_n (r := meeting_) 1 X dX6_behindBusyIn_0 rfl rfl) (L_iload_n (x := person_) 2 X dX6_behindBusyIn_1 rfl rfl) (fun v0 v1 st mm a b hd hc hs h => g_callVo (st := st) (cI := 1) X hT htr rfl (fun q => M_X0_versionThere q v1) lk_X0_versionThere im_X0_versionThere se_X0_versionThere ml_X6_269 rfl (by rw [hR]; exact ⟨Nat.le_of_ble_eq_true rfl, Nat.le_of_ble_eq_true rfl⟩) (Nat.le_trans hd (by decide)) ⟨hc, hs⟩ dX6_behindBusyIn_2 h)) (S_astore (ev := fun held_3 => [(5, va_rf held_3), (0, va_rf (some this)), (1, va_rf meeting_), (2, .int person_), (3, .int hour_), (4, .int length_)]) X dX6_behindBusyIn_5 (by rw [hN]; decide) (fun _ => rfl)) fun held_3 =>
  (SB_let (L_iload_n (x := hour_) 4 X dX6_behindBusyIn_7 rfl rfl) (S_istore (ev := fun latest_4 => [(6, .int latest_4), (5, va_rf held_3), (0, va_rf (some this)), (1, va_rf meeting_), (2, .int person_), (3, .int hour_), (4, .int length_)]) X dX6_behindBusyIn_8 (by rw [hN]; decide) (fun _ => (by cases held_3 <;> rfl))) fun latest_4 =>
  (SB_let (L_iconst (v := 0) X dX6_behindBusyIn_10 (by decide)) (S_istore (ev := fun place_5 => [(7, .int place_5), (6, .int latest_4), (5, va_rf held_3), (0, va_rf (some this)), (1, va_rf meeting_), (2, .int person_), (3, .int hour_), (4, .int length_)]) X dX6_behindBusyIn_11 (by rw [hN]; decide) (fun _ => rfl)) fun place_5 =>
  (SB_seq (ST_loop (σ := Int32 × Int32) (upd := (fun (s : Int32 × Int32) => [(7, .int s.2), (6, .int s.1), (5, va_rf held_3), (0, va_rf (some this)), (1, va_rf meeting_), (2, .int person_), (3, .int hour_), (4, .int length_)])) (s0 := (latest_4, place_5)) (n := 2000) (fun mm a b h => GG_sub [0, 1, 2, 3, 4, 5, 6, 7] rfl h)
  (fun s6 => (CE_and (CE_1 (L_aload (r := held_3) 2 X dX6_behindBusyIn_13 rfl) (N_ne_F X dX6_behindBusyIn_15 (by decide))) (CE_2 wI (L_iload (x := s6.2) 0 X dX6_behindBusyIn_18 rfl) (XE_1 (XE_1 (L_aload (r := held_3) 2 X dX6_behindBusyIn_20 rfl) (O_gr (c := 5) (j := 11) X rfl inW4 (by decide) fl_X6_278 rfl dX6_behindBusyIn_22)) (O_len X dX6_behindBusyIn_25)) (C_lt_F X dX6_behindBusyIn_26 (by decide)))))
  (fun s6 => (ST_post (ST_let (XE_2 wR (XE_1 (L_aload (r := held_3) 2 X dX6_behindBusyIn_29 rfl) (O_gr (c := 5) (j := 11) X rfl inW4 (by decide) fl_X6_278 rfl dX6_behindBusyIn_31)) (L_iload (x := s6.2) 0 X dX6_behindBusyIn_34 rfl) (O_ai X dX6_behindBusyIn_36)) (S_istore (ev := fun day_16 => [(8, .int day_16), (7, .int s6.2), (6, .int s6.1), (5, va_rf held_3), (0, va_rf (some this)), (1, va_rf meeting_), (2, .int person_), (3, .int hour_), (4, .int length_)]) X dX6_behindBusyIn_37 (by rw [hN]; decide) (fun _ => rfl)) fun day_16 =>
  (ST_let (XE_2 (pB := pI) wR (L_aload (r := held_3) 3 X dX6_behindBusyIn_39 rfl) (L_iload (x := day_16) 0 X dX6_behindBusyIn_41 rfl) (fun v0 v1 st mm a b hd hc hs h => g_callVo (st := st) (cI := 5) X hT htr rfl (fun q => M_X4_beginOf q v1) lk_X4_beginOf im_X4_beginOf se_X4_beginOf ml_X6_288 rfl (by rw [hR]; exact ⟨Nat.le_of_ble_eq_true rfl, Nat.le_of_ble_eq_true rfl⟩) (Nat.le_trans hd (by decide)) ⟨hc, hs⟩ dX6_behindBusyIn_43 h)) (S_istore (ev := fun begin_19 => [(9, .int begin_19), (8, .int day_16), (7, .int s6.2), (6, .int s6.1), (5, va_rf held_3), (0, va_rf (some this)), (1, va_rf meeting_), (2, .int person_), (3, .int hour_), (4, .int length_)]) X dX6_behindBusyIn_46 (by rw [hN]; decide) (fun _ => rfl)) fun begin_19 =>
  (ST_let (XE_2 wI (L_iload (x := begin_19) 0 X dX6_behindBusyIn_48 rfl) (XE_1 (L_aload (r := held_3) 4 X dX6_behindBusyIn_50 rfl) (O_gi (c := 5) (j := 4) X rfl inW4 (by decide) fl_X6_405 rfl dX6_behindBusyIn_52)) (O_iadd X dX6_behindBusyIn_55)) (S_istore (ev := fun end_23 => [(10, .int end_23), (9, .int begin_19), (8, .int day_16), (7, .int s6.2), (6, .int s6.1), (5, va_rf held_3), (0, va_rf (some this)), (1, va_rf meeting_), (2, .int person_), (3, .int hour_), (4, .int length_)]) X dX6_behindBusyIn_56 (by rw [hN]; decide) (fun _ => rfl)) fun end_23 =>
  (ST_seq (ST_if (CE_and (CE_and (CE_2 wI (L_iload (x := begin_19) 1 X dX6_behindBusyIn_58 rfl) (XE_2 wI (L_iload_n (x := hour_) 9 X dX6_behindBusyIn_60 rfl rfl) (L_iload (x := length_) 10 X dX6_behindBusyIn_61 rfl) (O_iadd X dX6_behindBusyIn_63)) (C_lt_F X dX6_behindBusyIn_64 (by decide))) (CE_2 wI (L_iload (x := end_23) 0 X dX6_behindBusyIn_67 rfl) (L_iload (x := s6.1) 4 X dX6_behindBusyIn_69 rfl) (C_gt_F X dX6_behindBusyIn_71 (by decide)))) (CE_2 wI (XE_4 (pB := pI) wR wI wR (L_aload_n (r := meeting_) 7 X dX6_behindBusyIn_74 rfl rfl) (L_iload_n (x := person_) 8 X dX6_behindBusyIn_75 rfl rfl) (L_aload (r := held_3) 5 X dX6_behindBusyIn_76 rfl) (L_iload (x := day_16) 2 X dX6_behindBusyIn_78 rfl) (fun v0 v1 v2 v3 st mm a b hd hc hs h => g_callVo (st := st) (cI := 1) X hT htr rfl (fun q => M_X0_rankByDate q v1 v2 v3) lk_X0_rankByDate im_X0_rankByDate se_X0_rankByDate ml_X6_407 rfl (by rw [hR]; exact ⟨Nat.le_of_ble_eq_true rfl, Nat.le_of_ble_eq_true rfl⟩) (Nat.le_trans hd (by decide)) ⟨hc, hs⟩ dX6_behindBusyIn_80 h)) (L_iconst (v := 2) X dX6_behindBusyIn_83 (by decide)) (C_eq_F X dX6_behindBusyIn_84 (by decide))))
  (ST_let (L_iload (x := end_23) 0 X dX6_behindBusyIn_87 rfl) (S_istore (ev := fun latest_38 => [(6, .int latest_38), (10, .int end_23), (9, .int begin_19), (8, .int day_16), (7, .int s6.2), (5, va_rf held_3), (0, va_rf (some this)), (1, va_rf meeting_), (2, .int person_), (3, .int hour_), (4, .int length_)]) X dX6_behindBusyIn_89 (by rw [hN]; decide) (fun _ => (by cases held_3 <;> rfl))) fun latest_38 =>
  (ST_done (upd := (fun (s : Int32) => [(10, .int end_23), (9, .int begin_19), (8, .int day_16), (7, .int s6.2), (6, .int s), (5, va_rf held_3), (0, va_rf (some this)), (1, va_rf meeting_), (2, .int person_), (3, .int hour_), (4, .int length_)])) (s := latest_38) [1, 2, 3, 4, 0, 5, 6, 7, 8, 9, 10] rfl))
  (ST_done (upd := (fun (s : Int32) => [(10, .int end_23), (9, .int begin_19), (8, .int day_16), (7, .int s6.2), (6, .int s), (5, va_rf held_3), (0, va_rf (some this)), (1, va_rf meeting_), (2, .int person_), (3, .int hour_), (4, .int length_)])) (s := s6.1) [0, 1, 2, 3, 4, 5, 6, 7, 8, 9, 10] rfl)) fun s40 =>
  (ST_pre (env' := [(7, .int (s6.2 + 1)), (10, .int end_23), (9, .int begin_19), (8, .int day_16), (6, .int s40), (5, va_rf held_3), (0, va_rf (some this)), (1, va_rf meeting_), (2, .int person_), (3, .int hour_), (4, .int length_)]) (S_iinc 3 X dX6_behindBusyIn_91 rfl rfl (by rw [hN]; decide) rfl)
  (ST_done (upd := (fun (s : Int32 × Int32) => [(7, .int s.2), (6, .int s.1), (5, va_rf held_3), (0, va_rf (some this)), (1, va_rf meeting_), (2, .int person_), (3, .int hour_), (4, .int length_)])) (s := (s40, (s6.2 + 1))) [0, 4, 5, 6, 7, 8, 9, 10] rfl)))))) fun _ mm a b h => S_goto X dX6_behindBusyIn_94 (by decide) [] mm a b h))) fun s41 =>
  (SB_retI X C hr dX6_behindBusyIn_99 (L_iload (x := s41.1) 1 X dX6_behindBusyIn_97 rfl)))))) h (by rw [hR]; decide) (by rw [hR]; decide)
theorem dX6_behindBusy_0 : decode cX6_behindBusy 0 = .ok (.iload_n 2, 1) := by decide +kernel
theorem dX6_behindBusy_1 : decode cX6_behindBusy 1 = .ok (.istore 4, 2) := by decide +kernel
theorem dX6_behindBusy_3 : decode cX6_behindBusy 3 = .ok (.iconst 0, 1) := by decide +kernel
theorem dX6_behindBusy_4 : decode cX6_behindBusy 4 = .ok (.istore 5, 2) := by decide +kernel
theorem dX6_behindBusy_6 : decode cX6_behindBusy 6 = .ok (.iload 5, 2) := by decide +kernel
theorem dX6_behindBusy_8 : decode cX6_behindBusy 8 = .ok (.iconst 5, 1) := by decide +kernel
theorem dX6_behindBusy_9 : decode cX6_behindBusy 9 = .ok (.if_icmp .ge 58, 3) := by decide +kernel
theorem dX6_behindBusy_12 : decode cX6_behindBusy 12 = .ok (.iconst 0, 1) := by decide +kernel
theorem dX6_behindBusy_13 : decode cX6_behindBusy 13 = .ok (.istore 6, 2) := by decide +kernel
theorem dX6_behindBusy_15 : decode cX6_behindBusy 15 = .ok (.iload_n 1, 1) := by decide +kernel
theorem dX6_behindBusy_16 : decode cX6_behindBusy 16 = .ok (.iload 5, 2) := by decide +kernel
theorem dX6_behindBusy_18 : decode cX6_behindBusy 18 = .ok (.invokestatic 153, 3) := by decide +kernel
theorem dX6_behindBusy_21 : decode cX6_behindBusy 21 = .ok (.ifCond .eq 40, 3) := by decide +kernel
theorem dX6_behindBusy_24 : decode cX6_behindBusy 24 = .ok (.iload 6, 2) := by decide +kernel
theorem dX6_behindBusy_26 : decode cX6_behindBusy 26 = .ok (.aload_n 0, 1) := by decide +kernel
theorem dX6_behindBusy_27 : decode cX6_behindBusy 27 = .ok (.getfield 78, 3) := by decide +kernel
theorem dX6_behindBusy_30 : decode cX6_behindBusy 30 = .ok (.if_icmp .ge 31, 3) := by decide +kernel
theorem dX6_behindBusy_33 : decode cX6_behindBusy 33 = .ok (.iload 4, 2) := by decide +kernel
theorem dX6_behindBusy_35 : decode cX6_behindBusy 35 = .ok (.aload_n 0, 1) := by decide +kernel
theorem dX6_behindBusy_36 : decode cX6_behindBusy 36 = .ok (.aload_n 0, 1) := by decide +kernel
theorem dX6_behindBusy_37 : decode cX6_behindBusy 37 = .ok (.getfield 23, 3) := by decide +kernel
theorem dX6_behindBusy_40 : decode cX6_behindBusy 40 = .ok (.iload 6, 2) := by decide +kernel
theorem dX6_behindBusy_42 : decode cX6_behindBusy 42 = .ok (.aaload, 1) := by decide +kernel
theorem dX6_behindBusy_43 : decode cX6_behindBusy 43 = .ok (.iload 5, 2) := by decide +kernel
theorem dX6_behindBusy_45 : decode cX6_behindBusy 45 = .ok (.iload_n 2, 1) := by decide +kernel
theorem dX6_behindBusy_46 : decode cX6_behindBusy 46 = .ok (.iload_n 3, 1) := by decide +kernel
theorem dX6_behindBusy_47 : decode cX6_behindBusy 47 = .ok (.invokevirtual 410, 3) := by decide +kernel
theorem dX6_behindBusy_50 : decode cX6_behindBusy 50 = .ok (.invokestatic 320, 3) := by decide +kernel
theorem dX6_behindBusy_53 : decode cX6_behindBusy 53 = .ok (.istore 4, 2) := by decide +kernel
theorem dX6_behindBusy_55 : decode cX6_behindBusy 55 = .ok (.iinc 6 1, 3) := by decide +kernel
theorem dX6_behindBusy_58 : decode cX6_behindBusy 58 = .ok (.goto (-43), 3) := by decide +kernel
theorem dX6_behindBusy_61 : decode cX6_behindBusy 61 = .ok (.iinc 5 1, 3) := by decide +kernel
theorem dX6_behindBusy_64 : decode cX6_behindBusy 64 = .ok (.goto (-58), 3) := by decide +kernel
theorem dX6_behindBusy_67 : decode cX6_behindBusy 67 = .ok (.iload 4, 2) := by decide +kernel
theorem dX6_behindBusy_69 : decode cX6_behindBusy 69 = .ok (.ireturn, 1) := by decide +kernel
theorem lk_X6_behindBusy : LK yX6_behindBusy cX6_behindBusy 7 (some .int) 3 := ⟨qW_at 233 (by decide +kernel) rfl, qW_at 29 (by decide +kernel) rfl, by decide, by decide, by decide +kernel⟩
theorem im_X6_behindBusy : Cond.instanceMethod yX6_behindBusy ∈ qW := qW_at 232 (by decide +kernel) rfl
theorem se_X6_behindBusy : Cond.selects RX6 yX6_behindBusy yX6_behindBusy ∈ qW := qW_at 1 (by decide +kernel) rfl
def F_X6_behindBusy (this : Nat) (people_ : Int32) (hour_ : Int32) (length_ : Int32) : QX Int32 :=
  (xb (xp hour_) fun latest_1 =>
  (xb (xp (0 : Int32)) fun person_2 =>
  (xb (xl 2000 (fun (s3 : Int32 × Int32) => (xb (xp s3.2) fun v4 => xb (xp (5 : Int32)) fun v5 => xp (decide (v4 < v5)))) (fun (s3 : Int32 × Int32) =>
  (xb (xp (0 : Int32)) fun number_6 =>
  (xb (xl 2000 (fun (s7 : Int32 × Int32) => (xb (xb (xb (xp people_) fun v8 => xb (xp s3.2) fun v9 => F_X6_isIn v8 v9) fun v10 => xp (decide (¬ v10 = 0))) fun v14 => if v14 then (xb (xp s7.2) fun v11 => xb (xb (xp (some this)) fun v12 => xgi 7 4 v12) fun v13 => xp (decide (v11 < v13))) else xp false)) (fun (s7 : Int32 × Int32) =>
  (xb (xb (xp s7.1) fun v23 => xb (xb (xp (some this)) fun v18 => xb (xb (xb (xp (some this)) fun v15 => xgr 7 2 v15) fun v16 => xb (xp s7.2) fun v17 => xar 1 v16 v17) fun v19 => xb (xp s3.2) fun v20 => xb (xp hour_) fun v21 => xb (xp length_) fun v22 => xo 7 v18 fun q => F_X6_behindBusyIn q v19 v20 v21 v22) fun v24 => xp (if v23 < v24 then v24 else v23)) fun latest_25 =>
  (xp (latest_25, (s7.2 + 1))))) (s3.1, number_6)) fun s26 =>
  (xp (s26.1, (s3.2 + 1)))))) (latest_1, person_2)) fun s27 =>
  (xp s27.1))))
set_option maxRecDepth 100000 in
set_option maxHeartbeats 4000000 in
theorem M_X6_behindBusy (this : Nat) (people_ : Int32) (hour_ : Int32) (length_ : Int32) : MM yX6_behindBusy cX6_behindBusy 7 (some .int) 5 120 0 0 encI [.ref this, .int people_, .int hour_, .int length_] (F_X6_behindBusy this people_ hour_ length_) := by
  refine MM_of (env0 := [(0, va_rf (some this)), (1, .int people_), (2, .int hour_), (3, .int length_)]) (by decide) (by exact Nat.le_of_ble_eq_true rfl) (by rfl) (fun k mm res X C hR hN hr hname h => ?_)
  have X : CX k cX6_behindBusy RX6 := X
  have hT : TH k (fun e m' => res = (.error e, m')) := TH_of C
  have htr := C.2.2.2.1
  unfold F_X6_behindBusy at h
  exact SB_go (T := fun e m' => res = (.error e, m')) (RET := fun v m' => res = (.ok v, m')) (SB_let (L_iload_n (x := hour_) 2 X dX6_behindBusy_0 rfl rfl) (S_istore (ev := fun latest_1 => [(4, .int latest_1), (0, va_rf (some this)), (1, .int people_), (2, .int hour_), (3, .int length_)]) X dX6_behindBusy_1 (by rw [hN]; decide) (fun _ => rfl)) fun latest_1 =>
  (SB_let (L_iconst (v := 0) X dX6_behindBusy_3 (by decide)) (S_istore (ev := fun person_2 => [(5, .int person_2), (4, .int latest_1), (0, va_rf (some this)), (1, .int people_), (2, .int hour_), (3, .int length_)]) X dX6_behindBusy_4 (by rw [hN]; decide) (fun _ => rfl)) fun person_2 =>
  (SB_seq (ST_loop (σ := Int32 × Int32) (upd := (fun (s : Int32 × Int32) => [(5, .int s.2), (4, .int s.1), (0, va_rf (some this)), (1, .int people_), (2, .int hour_), (3, .int length_)])) (s0 := (latest_1, person_2)) (n := 2000) (fun mm a b h => GG_sub [0, 1, 2, 3, 4, 5] rfl h)
  (fun s3 => (CE_2 wI (L_iload (x := s3.2) 0 X dX6_behindBusy_6 rfl) (L_iconst (v := 5) X dX6_behindBusy_8 (by decide)) (C_lt_F X dX6_behindBusy_9 (by decide))))
  (fun s3 => (ST_post (ST_let (L_iconst (v := 0) X dX6_behindBusy_12 (by decide)) (S_istore (ev := fun number_6 => [(6, .int number_6), (5, .int s3.2), (4, .int s3.1), (0, va_rf (some this)), (1, .int people_), (2, .int hour_), (3, .int length_)]) X dX6_behindBusy_13 (by rw [hN]; decide) (fun _ => rfl)) fun number_6 =>
  (ST_seq (ST_loop (σ := Int32 × Int32) (upd := (fun (s : Int32 × Int32) => [(6, .int s.2), (5, .int s3.2), (4, .int s.1), (0, va_rf (some this)), (1, .int people_), (2, .int hour_), (3, .int length_)])) (s0 := (s3.1, number_6)) (n := 2000) (fun mm a b h => GG_sub [0, 1, 2, 3, 4, 5, 6] rfl h)
  (fun s7 => (CE_and (CE_1 (XE_2 (pB := pI) wI (L_iload_n (x := people_) 4 X dX6_behindBusy_15 rfl rfl) (L_iload (x := s3.2) 1 X dX6_behindBusy_16 rfl) (fun v0 v1 st mm a b hd hc hs h => g_callS (st := st) X hT htr (M_X6_isIn v0 v1) lk_X6_isIn st_X6_isIn ml_X6_153 rfl (by rw [hR]; exact ⟨Nat.le_of_ble_eq_true rfl, Nat.le_of_ble_eq_true rfl⟩) (Nat.le_trans hd (by decide)) ⟨hc, hs⟩ dX6_behindBusy_18 h)) (Z_ne_F X dX6_behindBusy_21 (by decide))) (CE_2 wI (L_iload (x := s7.2) 0 X dX6_behindBusy_24 rfl) (XE_1 (L_aload_n (r := (some this)) 3 X dX6_behindBusy_26 rfl rfl) (O_gi (c := 7) (j := 4) X rfl inW6 (by decide) fl_X6_78 rfl dX6_behindBusy_27)) (C_lt_F X dX6_behindBusy_30 (by decide)))))
  (fun s7 => (ST_post (ST_let (XE_2 (pB := pI) (f := fun x y => xp (if x < y then y else x)) wI (L_iload (x := s7.1) 2 X dX6_behindBusy_33 rfl) (XE_5 (pB := pI) wR wR wI wI (L_aload_n (r := (some this)) 3 X dX6_behindBusy_35 rfl rfl) (XE_2 wR (XE_1 (L_aload_n (r := (some this)) 3 X dX6_behindBusy_36 rfl rfl) (O_gr (c := 7) (j := 2) X rfl inW6 (by decide) fl_X6_23 rfl dX6_behindBusy_37)) (L_iload (x := s7.2) 0 X dX6_behindBusy_40 rfl) (O_ar (c := 1) X (by decide) rfl dX6_behindBusy_42)) (L_iload (x := s3.2) 1 X dX6_behindBusy_43 rfl) (L_iload_n (x := hour_) 5 X dX6_behindBusy_45 rfl rfl) (L_iload_n (x := length_) 6 X dX6_behindBusy_46 rfl rfl) (fun v0 v1 v2 v3 v4 st mm a b hd hc hs h => g_callVo (st := st) (cI := 7) X hT htr rfl (fun q => M_X6_behindBusyIn q v1 v2 v3 v4) lk_X6_behindBusyIn im_X6_behindBusyIn se_X6_behindBusyIn ml_X6_410 rfl (by rw [hR]; exact ⟨Nat.le_of_ble_eq_true rfl, Nat.le_of_ble_eq_true rfl⟩) (Nat.le_trans hd (by decide)) ⟨hc, hs⟩ dX6_behindBusy_47 h)) (O_max X ml_X6_320 mx_st mx_in mx_co (by rw [hR]; exact Nat.le_of_ble_eq_true rfl) (by decide) (by rw [hR]; exact Nat.le_of_ble_eq_true rfl) dX6_behindBusy_50)) (S_istore (ev := fun latest_25 => [(4, .int latest_25), (6, .int s7.2), (5, .int s3.2), (0, va_rf (some this)), (1, .int people_), (2, .int hour_), (3, .int length_)]) X dX6_behindBusy_53 (by rw [hN]; decide) (fun _ => rfl)) fun latest_25 =>
  (ST_pre (env' := [(6, .int (s7.2 + 1)), (4, .int latest_25), (5, .int s3.2), (0, va_rf (some this)), (1, .int people_), (2, .int hour_), (3, .int length_)]) (S_iinc 1 X dX6_behindBusy_55 rfl rfl (by rw [hN]; decide) rfl)
  (ST_done (upd := (fun (s : Int32 × Int32) => [(6, .int s.2), (5, .int s3.2), (4, .int s.1), (0, va_rf (some this)), (1, .int people_), (2, .int hour_), (3, .int length_)])) (s := (latest_25, (s7.2 + 1))) [0, 2, 1, 3, 4, 5, 6] rfl))) fun _ mm a b h => S_goto X dX6_behindBusy_58 (by decide) [] mm a b h))) fun s26 =>
  (ST_pre (env' := [(5, .int (s3.2 + 1)), (6, .int s26.2), (4, .int s26.1), (0, va_rf (some this)), (1, .int people_), (2, .int hour_), (3, .int length_)]) (S_iinc 1 X dX6_behindBusy_61 rfl rfl (by rw [hN]; decide) rfl)
  (ST_done (upd := (fun (s : Int32 × Int32) => [(5, .int s.2), (4, .int s.1), (0, va_rf (some this)), (1, .int people_), (2, .int hour_), (3, .int length_)])) (s := (s26.1, (s3.2 + 1))) [0, 2, 3, 4, 5, 6] rfl)))) fun _ mm a b h => S_goto X dX6_behindBusy_64 (by decide) [] mm a b h))) fun s27 =>
  (SB_retI X C hr dX6_behindBusy_69 (L_iload (x := s27.1) 1 X dX6_behindBusy_67 rfl))))) h (by rw [hR]; decide) (by rw [hR]; decide)
theorem dX6_firstFree_0 : decode cX6_firstFree 0 = .ok (.iload_n 1, 1) := by decide +kernel
theorem dX6_firstFree_1 : decode cX6_firstFree 1 = .ok (.iload_n 2, 1) := by decide +kernel
theorem dX6_firstFree_2 : decode cX6_firstFree 2 = .ok (.iload_n 3, 1) := by decide +kernel
theorem dX6_firstFree_3 : decode cX6_firstFree 3 = .ok (.invokestatic 325, 3) := by decide +kernel
theorem dX6_firstFree_6 : decode cX6_firstFree 6 = .ok (.iload_n 2, 1) := by decide +kernel
theorem dX6_firstFree_7 : decode cX6_firstFree 7 = .ok (.istore 4, 2) := by decide +kernel
theorem dX6_firstFree_9 : decode cX6_firstFree 9 = .ok (.aload_n 0, 1) := by decide +kernel
theorem dX6_firstFree_10 : decode cX6_firstFree 10 = .ok (.iload_n 1, 1) := by decide +kernel
theorem dX6_firstFree_11 : decode cX6_firstFree 11 = .ok (.iload 4, 2) := by decide +kernel
theorem dX6_firstFree_13 : decode cX6_firstFree 13 = .ok (.iload_n 3, 1) := by decide +kernel
theorem dX6_firstFree_14 : decode cX6_firstFree 14 = .ok (.invokevirtual 328, 3) := by decide +kernel
theorem dX6_firstFree_17 : decode cX6_firstFree 17 = .ok (.istore 5, 2) := by decide +kernel
theorem dX6_firstFree_19 : decode cX6_firstFree 19 = .ok (.bipush (-48), 2) := by decide +kernel
theorem dX6_firstFree_21 : decode cX6_firstFree 21 = .ok (.istore 6, 2) := by decide +kernel
theorem dX6_firstFree_23 : decode cX6_firstFree 23 = .ok (.iload 6, 2) := by decide +kernel
theorem dX6_firstFree_25 : decode cX6_firstFree 25 = .ok (.sipush 1600, 3) := by decide +kernel
theorem dX6_firstFree_28 : decode cX6_firstFree 28 = .ok (.if_icmp .ge 30, 3) := by decide +kernel
theorem dX6_firstFree_31 : decode cX6_firstFree 31 = .ok (.iload 5, 2) := by decide +kernel
theorem dX6_firstFree_33 : decode cX6_firstFree 33 = .ok (.iload 4, 2) := by decide +kernel
theorem dX6_firstFree_35 : decode cX6_firstFree 35 = .ok (.if_icmp .le 23, 3) := by decide +kernel
theorem dX6_firstFree_38 : decode cX6_firstFree 38 = .ok (.iload 5, 2) := by decide +kernel
theorem dX6_firstFree_40 : decode cX6_firstFree 40 = .ok (.istore 4, 2) := by decide +kernel
theorem dX6_firstFree_42 : decode cX6_firstFree 42 = .ok (.aload_n 0, 1) := by decide +kernel
theorem dX6_firstFree_43 : decode cX6_firstFree 43 = .ok (.iload_n 1, 1) := by decide +kernel
theorem dX6_firstFree_44 : decode cX6_firstFree 44 = .ok (.iload 4, 2) := by decide +kernel
theorem dX6_firstFree_46 : decode cX6_firstFree 46 = .ok (.iload_n 3, 1) := by decide +kernel
theorem dX6_firstFree_47 : decode cX6_firstFree 47 = .ok (.invokevirtual 328, 3) := by decide +kernel
theorem dX6_firstFree_50 : decode cX6_firstFree 50 = .ok (.istore 5, 2) := by decide +kernel
theorem dX6_firstFree_52 : decode cX6_firstFree 52 = .ok (.iinc 6 1, 3) := by decide +kernel
theorem dX6_firstFree_55 : decode cX6_firstFree 55 = .ok (.goto (-32), 3) := by decide +kernel
theorem dX6_firstFree_58 : decode cX6_firstFree 58 = .ok (.iload 4, 2) := by decide +kernel
theorem dX6_firstFree_60 : decode cX6_firstFree 60 = .ok (.ireturn, 1) := by decide +kernel
theorem lk_X6_firstFree : LK yX6_firstFree cX6_firstFree 7 (some .int) 3 := ⟨qW_at 157 (by decide +kernel) rfl, qW_at 29 (by decide +kernel) rfl, by decide, by decide, by decide +kernel⟩
theorem im_X6_firstFree : Cond.instanceMethod yX6_firstFree ∈ qW := qW_at 155 (by decide +kernel) rfl
theorem se_X6_firstFree : Cond.selects RX6 yX6_firstFree yX6_firstFree ∈ qW := qW_at 156 (by decide +kernel) rfl
def F_X6_firstFree (this : Nat) (people_ : Int32) (from_ : Int32) (length_ : Int32) : QX Int32 :=
  (xb (xb (xp people_) fun v1 => xb (xp from_) fun v2 => xb (xp length_) fun v3 => F_X6_needSearch v1 v2 v3) fun _ =>
  (xb (xp from_) fun hour_4 =>
  (xb (xb (xp (some this)) fun v5 => xb (xp people_) fun v6 => xb (xp hour_4) fun v7 => xb (xp length_) fun v8 => xo 7 v5 fun q => F_X6_behindBusy q v6 v7 v8) fun behind_9 =>
  (xb (xp (-48 : Int32)) fun round_10 =>
  (xb (xl 2000 (fun (s11 : Int32 × Int32 × Int32) => (xb (xb (xp s11.2.2) fun v12 => xb (xp (1600 : Int32)) fun v13 => xp (decide (v12 < v13))) fun v16 => if v16 then (xb (xp s11.2.1) fun v14 => xb (xp s11.1) fun v15 => xp (decide (v15 < v14))) else xp false)) (fun (s11 : Int32 × Int32 × Int32) =>
  (xb (xp s11.2.1) fun hour_17 =>
  (xb (xb (xp (some this)) fun v18 => xb (xp people_) fun v19 => xb (xp hour_17) fun v20 => xb (xp length_) fun v21 => xo 7 v18 fun q => F_X6_behindBusy q v19 v20 v21) fun behind_22 =>
  (xp (hour_17, behind_22, (s11.2.2 + 1)))))) (hour_4, behind_9, round_10)) fun s23 =>
  (xp s23.1))))))
set_option maxRecDepth 100000 in
set_option maxHeartbeats 4000000 in
theorem M_X6_firstFree (this : Nat) (people_ : Int32) (from_ : Int32) (length_ : Int32) : MM yX6_firstFree cX6_firstFree 7 (some .int) 9 146 3 18 encI [.ref this, .int people_, .int from_, .int length_] (F_X6_firstFree this people_ from_ length_) := by
  refine MM_of (env0 := [(0, va_rf (some this)), (1, .int people_), (2, .int from_), (3, .int length_)]) (by decide) (by exact Nat.le_of_ble_eq_true rfl) (by rfl) (fun k mm res X C hR hN hr hname h => ?_)
  have X : CX k cX6_firstFree RX6 := X
  have hT : TH k (fun e m' => res = (.error e, m')) := TH_of C
  have htr := C.2.2.2.1
  unfold F_X6_firstFree at h
  exact SB_go (T := fun e m' => res = (.error e, m')) (RET := fun v m' => res = (.ok v, m')) (SB_do (XE_3 (pB := pU) wI wI (L_iload_n (x := people_) 1 X dX6_firstFree_0 rfl rfl) (L_iload_n (x := from_) 2 X dX6_firstFree_1 rfl rfl) (L_iload_n (x := length_) 3 X dX6_firstFree_2 rfl rfl) (fun v0 v1 v2 st mm a b hd hc hs h => g_callS (st := st) X hT htr (M_X6_needSearch v0 v1 v2) lk_X6_needSearch st_X6_needSearch ml_X6_325 rfl (by rw [hR]; exact ⟨Nat.le_of_ble_eq_true rfl, Nat.le_of_ble_eq_true rfl⟩) (Nat.le_trans hd (by decide)) ⟨hc, hs⟩ dX6_firstFree_3 h))
  (SB_let (L_iload_n (x := from_) 2 X dX6_firstFree_6 rfl rfl) (S_istore (ev := fun hour_4 => [(4, .int hour_4), (0, va_rf (some this)), (1, .int people_), (2, .int from_), (3, .int length_)]) X dX6_firstFree_7 (by rw [hN]; decide) (fun _ => rfl)) fun hour_4 =>
  (SB_let (XE_4 (pB := pI) wR wI wI (L_aload_n (r := (some this)) 1 X dX6_firstFree_9 rfl rfl) (L_iload_n (x := people_) 2 X dX6_firstFree_10 rfl rfl) (L_iload (x := hour_4) 0 X dX6_firstFree_11 rfl) (L_iload_n (x := length_) 4 X dX6_firstFree_13 rfl rfl) (fun v0 v1 v2 v3 st mm a b hd hc hs h => g_callVo (st := st) (cI := 7) X hT htr rfl (fun q => M_X6_behindBusy q v1 v2 v3) lk_X6_behindBusy im_X6_behindBusy se_X6_behindBusy ml_X6_328 rfl (by rw [hR]; exact ⟨Nat.le_of_ble_eq_true rfl, Nat.le_of_ble_eq_true rfl⟩) (Nat.le_trans hd (by decide)) ⟨hc, hs⟩ dX6_firstFree_14 h)) (S_istore (ev := fun behind_9 => [(5, .int behind_9), (4, .int hour_4), (0, va_rf (some this)), (1, .int people_), (2, .int from_), (3, .int length_)]) X dX6_firstFree_17 (by rw [hN]; decide) (fun _ => rfl)) fun behind_9 =>
  (SB_let (L_bipush (v := (-48)) X dX6_firstFree_19 (by decide)) (S_istore (ev := fun round_10 => [(6, .int round_10), (5, .int behind_9), (4, .int hour_4), (0, va_rf (some this)), (1, .int people_), (2, .int from_), (3, .int length_)]) X dX6_firstFree_21 (by rw [hN]; decide) (fun _ => rfl)) fun round_10 =>
  (SB_seq (ST_loop (σ := Int32 × Int32 × Int32) (upd := (fun (s : Int32 × Int32 × Int32) => [(6, .int s.2.2), (5, .int s.2.1), (4, .int s.1), (0, va_rf (some this)), (1, .int people_), (2, .int from_), (3, .int length_)])) (s0 := (hour_4, behind_9, round_10)) (n := 2000) (fun mm a b h => GG_sub [0, 1, 2, 3, 4, 5, 6] rfl h)
  (fun s11 => (CE_and (CE_2 wI (L_iload (x := s11.2.2) 0 X dX6_firstFree_23 rfl) (L_sipush (v := (1600)) X dX6_firstFree_25 (by decide)) (C_lt_F X dX6_firstFree_28 (by decide))) (CE_2 wI (L_iload (x := s11.2.1) 1 X dX6_firstFree_31 rfl) (L_iload (x := s11.1) 2 X dX6_firstFree_33 rfl) (C_gt_F X dX6_firstFree_35 (by decide)))))
  (fun s11 => (ST_post (ST_let (L_iload (x := s11.2.1) 1 X dX6_firstFree_38 rfl) (S_istore (ev := fun hour_17 => [(4, .int hour_17), (6, .int s11.2.2), (5, .int s11.2.1), (0, va_rf (some this)), (1, .int people_), (2, .int from_), (3, .int length_)]) X dX6_firstFree_40 (by rw [hN]; decide) (fun _ => rfl)) fun hour_17 =>
  (ST_let (XE_4 (pB := pI) wR wI wI (L_aload_n (r := (some this)) 3 X dX6_firstFree_42 rfl rfl) (L_iload_n (x := people_) 4 X dX6_firstFree_43 rfl rfl) (L_iload (x := hour_17) 0 X dX6_firstFree_44 rfl) (L_iload_n (x := length_) 6 X dX6_firstFree_46 rfl rfl) (fun v0 v1 v2 v3 st mm a b hd hc hs h => g_callVo (st := st) (cI := 7) X hT htr rfl (fun q => M_X6_behindBusy q v1 v2 v3) lk_X6_behindBusy im_X6_behindBusy se_X6_behindBusy ml_X6_328 rfl (by rw [hR]; exact ⟨Nat.le_of_ble_eq_true rfl, Nat.le_of_ble_eq_true rfl⟩) (Nat.le_trans hd (by decide)) ⟨hc, hs⟩ dX6_firstFree_47 h)) (S_istore (ev := fun behind_22 => [(5, .int behind_22), (4, .int hour_17), (6, .int s11.2.2), (0, va_rf (some this)), (1, .int people_), (2, .int from_), (3, .int length_)]) X dX6_firstFree_50 (by rw [hN]; decide) (fun _ => rfl)) fun behind_22 =>
  (ST_pre (env' := [(6, .int (s11.2.2 + 1)), (5, .int behind_22), (4, .int hour_17), (0, va_rf (some this)), (1, .int people_), (2, .int from_), (3, .int length_)]) (S_iinc 2 X dX6_firstFree_52 rfl rfl (by rw [hN]; decide) rfl)
  (ST_done (upd := (fun (s : Int32 × Int32 × Int32) => [(6, .int s.2.2), (5, .int s.2.1), (4, .int s.1), (0, va_rf (some this)), (1, .int people_), (2, .int from_), (3, .int length_)])) (s := (hour_17, behind_22, (s11.2.2 + 1))) [0, 1, 2, 3, 4, 5, 6] rfl)))) fun _ mm a b h => S_goto X dX6_firstFree_55 (by decide) [] mm a b h))) fun s23 =>
  (SB_retI X C hr dX6_firstFree_60 (L_iload (x := s23.1) 2 X dX6_firstFree_58 rfl))))))) h (by rw [hR]; decide) (by rw [hR]; decide)
theorem dJ7_fill_031fb_0 : decode cJ7_fill_031fb 0 = .ok (.iconst 0, 1) := by decide +kernel
theorem dJ7_fill_031fb_1 : decode cJ7_fill_031fb 1 = .ok (.istore_n 2, 1) := by decide +kernel
theorem dJ7_fill_031fb_2 : decode cJ7_fill_031fb 2 = .ok (.aload_n 0, 1) := by decide +kernel
theorem dJ7_fill_031fb_3 : decode cJ7_fill_031fb 3 = .ok (.arraylength, 1) := by decide +kernel
theorem dJ7_fill_031fb_4 : decode cJ7_fill_031fb 4 = .ok (.istore_n 3, 1) := by decide +kernel
theorem dJ7_fill_031fb_5 : decode cJ7_fill_031fb 5 = .ok (.iload_n 2, 1) := by decide +kernel
theorem dJ7_fill_031fb_6 : decode cJ7_fill_031fb 6 = .ok (.iload_n 3, 1) := by decide +kernel
theorem dJ7_fill_031fb_7 : decode cJ7_fill_031fb 7 = .ok (.if_icmp .ge 13, 3) := by decide +kernel
theorem dJ7_fill_031fb_10 : decode cJ7_fill_031fb 10 = .ok (.aload_n 0, 1) := by decide +kernel
theorem dJ7_fill_031fb_11 : decode cJ7_fill_031fb 11 = .ok (.iload_n 2, 1) := by decide +kernel
theorem dJ7_fill_031fb_12 : decode cJ7_fill_031fb 12 = .ok (.iload_n 1, 1) := by decide +kernel
theorem dJ7_fill_031fb_13 : decode cJ7_fill_031fb 13 = .ok (.bastore, 1) := by decide +kernel
theorem dJ7_fill_031fb_14 : decode cJ7_fill_031fb 14 = .ok (.iinc 2 1, 3) := by decide +kernel
theorem dJ7_fill_031fb_17 : decode cJ7_fill_031fb 17 = .ok (.goto (-12), 3) := by decide +kernel
theorem dJ7_fill_031fb_20 : decode cJ7_fill_031fb 20 = .ok (.return_, 1) := by decide +kernel
theorem lk_J7_fill_031fb : LK yJ7_fill_031fb cJ7_fill_031fb 4 none 2 := ⟨qW_at 607 (by decide +kernel) rfl, qW_at 43 (by decide +kernel) rfl, by decide, by decide, by decide +kernel⟩
theorem st_J7_fill_031fb : Cond.static yJ7_fill_031fb ∈ qW := qW_at 606 (by decide +kernel) rfl
def F_J7_fill_031fb (a_ : Option Nat) (val_ : Int32) : QX Unit :=
  (xb (xp (0 : Int32)) fun i_1 =>
  (xb (xb (xp a_) fun v2 => xlen v2) fun len_3 =>
  (xb (xl 2000 (fun (s4 : Int32) => (xb (xp s4) fun v5 => xb (xp len_3) fun v6 => xp (decide (v5 < v6)))) (fun (s4 : Int32) =>
  (xb (xb (xp a_) fun v7 => xb (xp s4) fun v8 => xb (xp val_) fun v9 => xsab v7 v8 v9) fun _ =>
  (xp (s4 + 1)))) i_1) fun s10 =>
  (xp ()))))
set_option maxRecDepth 100000 in
set_option maxHeartbeats 4000000 in
theorem M_J7_fill_031fb (a_ : Option Nat) (val_ : Int32) : MM yJ7_fill_031fb cJ7_fill_031fb 4 none 0 0 0 0 encU [va_rf a_, .int val_] (F_J7_fill_031fb a_ val_) := by
  refine MM_of (env0 := [(0, va_rf a_), (1, .int val_)]) (by decide) (by cases a_ <;> exact Nat.le_of_ble_eq_true rfl) (by cases a_ <;> rfl) (fun k mm res X C hR hN hr hname h => ?_)
  have X : CX k cJ7_fill_031fb RJ7 := X
  have hT : TH k (fun e m' => res = (.error e, m')) := TH_of C
  have htr := C.2.2.2.1
  unfold F_J7_fill_031fb at h
  exact SB_go (T := fun e m' => res = (.error e, m')) (RET := fun v m' => res = (.ok v, m')) (SB_let (L_iconst (v := 0) X dJ7_fill_031fb_0 (by decide)) (S_istore_n (ev := fun i_1 => [(2, .int i_1), (0, va_rf a_), (1, .int val_)]) X dJ7_fill_031fb_1 rfl (by rw [hN]; decide) (fun _ => rfl)) fun i_1 =>
  (SB_let (XE_1 (L_aload_n (r := a_) 1 X dJ7_fill_031fb_2 rfl rfl) (O_len X dJ7_fill_031fb_3)) (S_istore_n (ev := fun len_3 => [(3, .int len_3), (2, .int i_1), (0, va_rf a_), (1, .int val_)]) X dJ7_fill_031fb_4 rfl (by rw [hN]; decide) (fun _ => rfl)) fun len_3 =>
  (SB_seq (ST_loop (σ := Int32) (upd := (fun (s : Int32) => [(3, .int len_3), (2, .int s), (0, va_rf a_), (1, .int val_)])) (s0 := i_1) (n := 2000) (fun mm a b h => GG_sub [0, 1, 2, 3] rfl h)
  (fun s4 => (CE_2 wI (L_iload_n (x := s4) 1 X dJ7_fill_031fb_5 rfl rfl) (L_iload_n (x := len_3) 0 X dJ7_fill_031fb_6 rfl rfl) (C_lt_F X dJ7_fill_031fb_7 (by decide))))
  (fun s4 => (ST_post (ST_do (XE_3 wR wI (L_aload_n (r := a_) 2 X dJ7_fill_031fb_10 rfl rfl) (L_iload_n (x := s4) 1 X dJ7_fill_031fb_11 rfl rfl) (L_iload_n (x := val_) 3 X dJ7_fill_031fb_12 rfl rfl) (O_sab X dJ7_fill_031fb_13))
  (ST_pre (env' := [(2, .int (s4 + 1)), (3, .int len_3), (0, va_rf a_), (1, .int val_)]) (S_iinc 1 X dJ7_fill_031fb_14 rfl rfl (by rw [hN]; decide) rfl)
  (ST_done (upd := (fun (s : Int32) => [(3, .int len_3), (2, .int s), (0, va_rf a_), (1, .int val_)])) (s := (s4 + 1)) [1, 0, 2, 3] rfl))) fun _ mm a b h => S_goto X dJ7_fill_031fb_17 (by decide) [] mm a b h))) fun s10 =>
  (SB_retU X C hr dJ7_fill_031fb_20)))) h (by rw [hR]; decide) (by rw [hR]; decide)
theorem dX6_paintHours_0 : decode cX6_paintHours 0 = .ok (.iload_n 1, 1) := by decide +kernel
theorem dX6_paintHours_1 : decode cX6_paintHours 1 = .ok (.istore_n 3, 1) := by decide +kernel
theorem dX6_paintHours_2 : decode cX6_paintHours 2 = .ok (.iload_n 3, 1) := by decide +kernel
theorem dX6_paintHours_3 : decode cX6_paintHours 3 = .ok (.iload_n 1, 1) := by decide +kernel
theorem dX6_paintHours_4 : decode cX6_paintHours 4 = .ok (.iload_n 2, 1) := by decide +kernel
theorem dX6_paintHours_5 : decode cX6_paintHours 5 = .ok (.iadd, 1) := by decide +kernel
theorem dX6_paintHours_6 : decode cX6_paintHours 6 = .ok (.if_icmp .ge 32, 3) := by decide +kernel
theorem dX6_paintHours_9 : decode cX6_paintHours 9 = .ok (.iload_n 3, 1) := by decide +kernel
theorem dX6_paintHours_10 : decode cX6_paintHours 10 = .ok (.bipush (-48), 2) := by decide +kernel
theorem dX6_paintHours_12 : decode cX6_paintHours 12 = .ok (.if_icmp .lt 20, 3) := by decide +kernel
theorem dX6_paintHours_15 : decode cX6_paintHours 15 = .ok (.iload_n 3, 1) := by decide +kernel
theorem dX6_paintHours_16 : decode cX6_paintHours 16 = .ok (.sipush 1600, 3) := by decide +kernel
theorem dX6_paintHours_19 : decode cX6_paintHours 19 = .ok (.if_icmp .gt 13, 3) := by decide +kernel
theorem dX6_paintHours_22 : decode cX6_paintHours 22 = .ok (.aload_n 0, 1) := by decide +kernel
theorem dX6_paintHours_23 : decode cX6_paintHours 23 = .ok (.getfield 37, 3) := by decide +kernel
theorem dX6_paintHours_26 : decode cX6_paintHours 26 = .ok (.iload_n 3, 1) := by decide +kernel
theorem dX6_paintHours_27 : decode cX6_paintHours 27 = .ok (.bipush (-48), 2) := by decide +kernel
theorem dX6_paintHours_29 : decode cX6_paintHours 29 = .ok (.isub, 1) := by decide +kernel
theorem dX6_paintHours_30 : decode cX6_paintHours 30 = .ok (.iconst 1, 1) := by decide +kernel
theorem dX6_paintHours_31 : decode cX6_paintHours 31 = .ok (.bastore, 1) := by decide +kernel
theorem dX6_paintHours_32 : decode cX6_paintHours 32 = .ok (.iinc 3 1, 3) := by decide +kernel
theorem dX6_paintHours_35 : decode cX6_paintHours 35 = .ok (.goto (-33), 3) := by decide +kernel
theorem dX6_paintHours_38 : decode cX6_paintHours 38 = .ok (.return_, 1) := by decide +kernel
theorem lk_X6_paintHours : LK yX6_paintHours cX6_paintHours 4 none 2 := ⟨qW_at 615 (by decide +kernel) rfl, qW_at 29 (by decide +kernel) rfl, by decide, by decide, by decide +kernel⟩
theorem im_X6_paintHours : Cond.instanceMethod yX6_paintHours ∈ qW := qW_at 614 (by decide +kernel) rfl
theorem se_X6_paintHours : Cond.selects RX6 yX6_paintHours yX6_paintHours ∈ qW := qW_at 15 (by decide +kernel) rfl
def F_X6_paintHours (this : Nat) (begin_ : Int32) (length_ : Int32) : QX Unit :=
  (xb (xp begin_) fun hour_1 =>
  (xb (xl 2000 (fun (s2 : Int32) => (xb (xp s2) fun v3 => xb (xb (xp begin_) fun v4 => xb (xp length_) fun v5 => (xp (v4 + v5))) fun v6 => xp (decide (v3 < v6)))) (fun (s2 : Int32) =>
  (xb (xb (xb (xb (xp s2) fun v7 => xb (xp (-48 : Int32)) fun v8 => xp (decide (v8 ≤ v7))) fun v11 => if v11 then (xb (xp s2) fun v9 => xb (xp (1600 : Int32)) fun v10 => xp (decide (v9 ≤ v10))) else xp false) fun v18 => if v18 then (xb (xb (xb (xp (some this)) fun v12 => xgr 7 8 v12) fun v15 => xb (xb (xp s2) fun v13 => xb (xp (-48 : Int32)) fun v14 => (xp (v13 - v14))) fun v16 => xb (xp (1 : Int32)) fun v17 => xsab v15 v16 v17) fun _ =>
  (xp ())) else (xp ())) fun s19 =>
  (xp (s2 + 1)))) hour_1) fun s20 =>
  (xp ())))
set_option maxRecDepth 100000 in
set_option maxHeartbeats 4000000 in
theorem M_X6_paintHours (this : Nat) (begin_ : Int32) (length_ : Int32) : MM yX6_paintHours cX6_paintHours 4 none 0 0 0 0 encU [.ref this, .int begin_, .int length_] (F_X6_paintHours this begin_ length_) := by
  refine MM_of (env0 := [(0, va_rf (some this)), (1, .int begin_), (2, .int length_)]) (by decide) (by exact Nat.le_of_ble_eq_true rfl) (by rfl) (fun k mm res X C hR hN hr hname h => ?_)
  have X : CX k cX6_paintHours RX6 := X
  have hT : TH k (fun e m' => res = (.error e, m')) := TH_of C
  have htr := C.2.2.2.1
  unfold F_X6_paintHours at h
  exact SB_go (T := fun e m' => res = (.error e, m')) (RET := fun v m' => res = (.ok v, m')) (SB_let (L_iload_n (x := begin_) 1 X dX6_paintHours_0 rfl rfl) (S_istore_n (ev := fun hour_1 => [(3, .int hour_1), (0, va_rf (some this)), (1, .int begin_), (2, .int length_)]) X dX6_paintHours_1 rfl (by rw [hN]; decide) (fun _ => rfl)) fun hour_1 =>
  (SB_seq (ST_loop (σ := Int32) (upd := (fun (s : Int32) => [(3, .int s), (0, va_rf (some this)), (1, .int begin_), (2, .int length_)])) (s0 := hour_1) (n := 2000) (fun mm a b h => GG_sub [0, 1, 2, 3] rfl h)
  (fun s2 => (CE_2 wI (L_iload_n (x := s2) 0 X dX6_paintHours_2 rfl rfl) (XE_2 wI (L_iload_n (x := begin_) 2 X dX6_paintHours_3 rfl rfl) (L_iload_n (x := length_) 3 X dX6_paintHours_4 rfl rfl) (O_iadd X dX6_paintHours_5)) (C_lt_F X dX6_paintHours_6 (by decide))))
  (fun s2 => (ST_post (ST_seq (ST_if (CE_and (CE_2 wI (L_iload_n (x := s2) 0 X dX6_paintHours_9 rfl rfl) (L_bipush (v := (-48)) X dX6_paintHours_10 (by decide)) (C_ge_F X dX6_paintHours_12 (by decide))) (CE_2 wI (L_iload_n (x := s2) 0 X dX6_paintHours_15 rfl rfl) (L_sipush (v := (1600)) X dX6_paintHours_16 (by decide)) (C_le_F X dX6_paintHours_19 (by decide))))
  (ST_do (XE_3 wR wI (XE_1 (L_aload_n (r := (some this)) 1 X dX6_paintHours_22 rfl rfl) (O_gr (c := 7) (j := 8) X rfl inW6 (by decide) fl_X6_37 rfl dX6_paintHours_23)) (XE_2 wI (L_iload_n (x := s2) 0 X dX6_paintHours_26 rfl rfl) (L_bipush (v := (-48)) X dX6_paintHours_27 (by decide)) (O_isub X dX6_paintHours_29)) (L_iconst (v := 1) X dX6_paintHours_30 (by decide)) (O_sab X dX6_paintHours_31))
  (ST_done (upd := (fun (s : Unit) => [(3, .int s2), (0, va_rf (some this)), (1, .int begin_), (2, .int length_)])) (s := ()) [0, 1, 2, 3] rfl))
  (ST_done (upd := (fun (s : Unit) => [(3, .int s2), (0, va_rf (some this)), (1, .int begin_), (2, .int length_)])) (s := ()) [0, 1, 2, 3] rfl)) fun s19 =>
  (ST_pre (env' := [(3, .int (s2 + 1)), (0, va_rf (some this)), (1, .int begin_), (2, .int length_)]) (S_iinc 0 X dX6_paintHours_32 rfl rfl (by rw [hN]; decide) rfl)
  (ST_done (upd := (fun (s : Int32) => [(3, .int s), (0, va_rf (some this)), (1, .int begin_), (2, .int length_)])) (s := (s2 + 1)) [0, 1, 2, 3] rfl))) fun _ mm a b h => S_goto X dX6_paintHours_35 (by decide) [] mm a b h))) fun s20 =>
  (SB_retU X C hr dX6_paintHours_38))) h (by rw [hR]; decide) (by rw [hR]; decide)
theorem dX6_paintBusyHoursIn_0 : decode cX6_paintBusyHoursIn 0 = .ok (.aload_n 1, 1) := by decide +kernel
theorem dX6_paintBusyHoursIn_1 : decode cX6_paintBusyHoursIn 1 = .ok (.iload_n 2, 1) := by decide +kernel
theorem dX6_paintBusyHoursIn_2 : decode cX6_paintBusyHoursIn 2 = .ok (.invokevirtual 269, 3) := by decide +kernel
theorem dX6_paintBusyHoursIn_5 : decode cX6_paintBusyHoursIn 5 = .ok (.astore_n 3, 1) := by decide +kernel
theorem dX6_paintBusyHoursIn_6 : decode cX6_paintBusyHoursIn 6 = .ok (.iconst 0, 1) := by decide +kernel
theorem dX6_paintBusyHoursIn_7 : decode cX6_paintBusyHoursIn 7 = .ok (.istore 4, 2) := by decide +kernel
theorem dX6_paintBusyHoursIn_9 : decode cX6_paintBusyHoursIn 9 = .ok (.aload_n 3, 1) := by decide +kernel
theorem dX6_paintBusyHoursIn_10 : decode cX6_paintBusyHoursIn 10 = .ok (.ifnull 54, 3) := by decide +kernel
theorem dX6_paintBusyHoursIn_13 : decode cX6_paintBusyHoursIn 13 = .ok (.iload 4, 2) := by decide +kernel
theorem dX6_paintBusyHoursIn_15 : decode cX6_paintBusyHoursIn 15 = .ok (.aload_n 3, 1) := by decide +kernel
theorem dX6_paintBusyHoursIn_16 : decode cX6_paintBusyHoursIn 16 = .ok (.getfield 278, 3) := by decide +kernel
theorem dX6_paintBusyHoursIn_19 : decode cX6_paintBusyHoursIn 19 = .ok (.arraylength, 1) := by decide +kernel
theorem dX6_paintBusyHoursIn_20 : decode cX6_paintBusyHoursIn 20 = .ok (.if_icmp .ge 44, 3) := by decide +kernel
theorem dX6_paintBusyHoursIn_23 : decode cX6_paintBusyHoursIn 23 = .ok (.aload_n 3, 1) := by decide +kernel
theorem dX6_paintBusyHoursIn_24 : decode cX6_paintBusyHoursIn 24 = .ok (.getfield 278, 3) := by decide +kernel
theorem dX6_paintBusyHoursIn_27 : decode cX6_paintBusyHoursIn 27 = .ok (.iload 4, 2) := by decide +kernel
theorem dX6_paintBusyHoursIn_29 : decode cX6_paintBusyHoursIn 29 = .ok (.iaload, 1) := by decide +kernel
theorem dX6_paintBusyHoursIn_30 : decode cX6_paintBusyHoursIn 30 = .ok (.istore 5, 2) := by decide +kernel
theorem dX6_paintBusyHoursIn_32 : decode cX6_paintBusyHoursIn 32 = .ok (.aload_n 1, 1) := by decide +kernel
theorem dX6_paintBusyHoursIn_33 : decode cX6_paintBusyHoursIn 33 = .ok (.iload_n 2, 1) := by decide +kernel
theorem dX6_paintBusyHoursIn_34 : decode cX6_paintBusyHoursIn 34 = .ok (.aload_n 3, 1) := by decide +kernel
theorem dX6_paintBusyHoursIn_35 : decode cX6_paintBusyHoursIn 35 = .ok (.iload 5, 2) := by decide +kernel
theorem dX6_paintBusyHoursIn_37 : decode cX6_paintBusyHoursIn 37 = .ok (.invokevirtual 407, 3) := by decide +kernel
theorem dX6_paintBusyHoursIn_40 : decode cX6_paintBusyHoursIn 40 = .ok (.iconst 2, 1) := by decide +kernel
theorem dX6_paintBusyHoursIn_41 : decode cX6_paintBusyHoursIn 41 = .ok (.if_icmp .ne 17, 3) := by decide +kernel
theorem dX6_paintBusyHoursIn_44 : decode cX6_paintBusyHoursIn 44 = .ok (.aload_n 0, 1) := by decide +kernel
theorem dX6_paintBusyHoursIn_45 : decode cX6_paintBusyHoursIn 45 = .ok (.aload_n 3, 1) := by decide +kernel
theorem dX6_paintBusyHoursIn_46 : decode cX6_paintBusyHoursIn 46 = .ok (.iload 5, 2) := by decide +kernel
theorem dX6_paintBusyHoursIn_48 : decode cX6_paintBusyHoursIn 48 = .ok (.invokevirtual 288, 3) := by decide +kernel
theorem dX6_paintBusyHoursIn_51 : decode cX6_paintBusyHoursIn 51 = .ok (.aload_n 3, 1) := by decide +kernel
theorem dX6_paintBusyHoursIn_52 : decode cX6_paintBusyHoursIn 52 = .ok (.getfield 405, 3) := by decide +kernel
theorem dX6_paintBusyHoursIn_55 : decode cX6_paintBusyHoursIn 55 = .ok (.invokevirtual 424, 3) := by decide +kernel
theorem dX6_paintBusyHoursIn_58 : decode cX6_paintBusyHoursIn 58 = .ok (.iinc 4 1, 3) := by decide +kernel
theorem dX6_paintBusyHoursIn_61 : decode cX6_paintBusyHoursIn 61 = .ok (.goto (-52), 3) := by decide +kernel
theorem dX6_paintBusyHoursIn_64 : decode cX6_paintBusyHoursIn 64 = .ok (.return_, 1) := by decide +kernel
theorem lk_X6_paintBusyHoursIn : LK yX6_paintBusyHoursIn cX6_paintBusyHoursIn 6 none 2 := ⟨qW_at 611 (by decide +kernel) rfl, qW_at 29 (by decide +kernel) rfl, by decide, by decide, by decide +kernel⟩
theorem im_X6_paintBusyHoursIn : Cond.instanceMethod yX6_paintBusyHoursIn ∈ qW := qW_at 610 (by decide +kernel) rfl
theorem se_X6_paintBusyHoursIn : Cond.selects RX6 yX6_paintBusyHoursIn yX6_paintBusyHoursIn ∈ qW := qW_at 14 (by decide +kernel) rfl
def F_X6_paintBusyHoursIn (this : Nat) (meeting_ : Option Nat) (person_ : Int32) : QX Unit :=
  (xb (xb (xp meeting_) fun v1 => xb (xp person_) fun v2 => xo 1 v1 fun q => F_X0_versionThere q v2) fun held_3 =>
  (xb (xp (0 : Int32)) fun place_4 =>
  (xb (xl 2000 (fun (s5 : Int32) => (xb (xb (xp held_3) fun v6 => xp (decide (¬ v6 = none))) fun v11 => if v11 then (xb (xp s5) fun v7 => xb (xb (xb (xp held_3) fun v8 => xgr 5 11 v8) fun v9 => xlen v9) fun v10 => xp (decide (v7 < v10))) else xp false)) (fun (s5 : Int32) =>
  (xb (xb (xb (xp held_3) fun v12 => xgr 5 11 v12) fun v13 => xb (xp s5) fun v14 => xai 0 v13 v14) fun day_15 =>
  (xb (xb (xb (xb (xp meeting_) fun v16 => xb (xp person_) fun v17 => xb (xp held_3) fun v18 => xb (xp day_15) fun v19 => xo 1 v16 fun q => F_X0_rankByDate q v17 v18 v19) fun v20 => xb (xp (2 : Int32)) fun v21 => xp (decide (v20 = v21))) fun v28 => if v28 then (xb (xb (xp (some this)) fun v25 => xb (xb (xp held_3) fun v22 => xb (xp day_15) fun v23 => xo 5 v22 fun q => F_X4_beginOf q v23) fun v26 => xb (xb (xp held_3) fun v24 => xgi 5 4 v24) fun v27 => xo 7 v25 fun q => F_X6_paintHours q v26 v27) fun _ =>
  (xp ())) else (xp ())) fun s29 =>
  (xp (s5 + 1))))) place_4) fun s30 =>
  (xp ()))))
set_option maxRecDepth 100000 in
set_option maxHeartbeats 4000000 in
theorem M_X6_paintBusyHoursIn (this : Nat) (meeting_ : Option Nat) (person_ : Int32) : MM yX6_paintBusyHoursIn cX6_paintBusyHoursIn 6 none 4 90 0 0 encU [.ref this, va_rf meeting_, .int person_] (F_X6_paintBusyHoursIn this meeting_ person_) := by
  refine MM_of (env0 := [(0, va_rf (some this)), (1, va_rf meeting_), (2, .int person_)]) (by decide) (by cases meeting_ <;> exact Nat.le_of_ble_eq_true rfl) (by cases meeting_ <;> rfl) (fun k mm res X C hR hN hr hname h => ?_)
  have X : CX k cX6_paintBusyHoursIn RX6 := X
  have hT : TH k (fun e m' => res = (.error e, m')) := TH_of C
  have htr := C.2.2.2.1
  unfold F_X6_paintBusyHoursIn at h
  exact SB_go (T := fun e m' => res = (.error e, m')) (RET := fun v m' => res = (.ok v, m')) (SB_let (XE_2 (pB := pR) wR (L_aload_n (r := meeting_) 1 X dX6_paintBusyHoursIn_0 rfl rfl) (L_iload_n (x := person_) 2 X dX6_paintBusyHoursIn_1 rfl rfl) (fun v0 v1 st mm a b hd hc hs h => g_callVo (st := st) (cI := 1) X hT htr rfl (fun q => M_X0_versionThere q v1) lk_X0_versionThere im_X0_versionThere se_X0_versionThere ml_X6_269 rfl (by rw [hR]; exact ⟨Nat.le_of_ble_eq_true rfl, Nat.le_of_ble_eq_true rfl⟩) (Nat.le_trans hd (by decide)) ⟨hc, hs⟩ dX6_paintBusyHoursIn_2 h)) (S_astore_n (ev := fun held_3 => [(3, va_rf held_3), (0, va_rf (some this)), (1, va_rf meeting_), (2, .int person_)]) X dX6_paintBusyHoursIn_5 rfl (by rw [hN]; decide) (fun _ => rfl)) fun held_3 =>
  (SB_let (L_iconst (v := 0) X dX6_paintBusyHoursIn_6 (by decide)) (S_istore (ev := fun place_4 => [(4, .int place_4), (3, va_rf held_3), (0, va_rf (some this)), (1, va_rf meeting_), (2, .int person_)]) X dX6_paintBusyHoursIn_7 (by rw [hN]; decide) (fun _ => (by cases held_3 <;> rfl))) fun place_4 =>
  (SB_seq (ST_loop (σ := Int32) (upd := (fun (s : Int32) => [(4, .int s), (3, va_rf held_3), (0, va_rf (some this)), (1, va_rf meeting_), (2, .int person_)])) (s0 := place_4) (n := 2000) (fun mm a b h => GG_sub [0, 1, 2, 3, 4] rfl h)
  (fun s5 => (CE_and (CE_1 (L_aload_n (r := held_3) 1 X dX6_paintBusyHoursIn_9 rfl rfl) (N_ne_F X dX6_paintBusyHoursIn_10 (by decide))) (CE_2 wI (L_iload (x := s5) 0 X dX6_paintBusyHoursIn_13 rfl) (XE_1 (XE_1 (L_aload_n (r := held_3) 1 X dX6_paintBusyHoursIn_15 rfl rfl) (O_gr (c := 5) (j := 11) X rfl inW4 (by decide) fl_X6_278 rfl dX6_paintBusyHoursIn_16)) (O_len X dX6_paintBusyHoursIn_19)) (C_lt_F X dX6_paintBusyHoursIn_20 (by decide)))))
  (fun s5 => (ST_post (ST_let (XE_2 wR (XE_1 (L_aload_n (r := held_3) 1 X dX6_paintBusyHoursIn_23 rfl rfl) (O_gr (c := 5) (j := 11) X rfl inW4 (by decide) fl_X6_278 rfl dX6_paintBusyHoursIn_24)) (L_iload (x := s5) 0 X dX6_paintBusyHoursIn_27 rfl) (O_ai X dX6_paintBusyHoursIn_29)) (S_istore (ev := fun day_15 => [(5, .int day_15), (4, .int s5), (3, va_rf held_3), (0, va_rf (some this)), (1, va_rf meeting_), (2, .int person_)]) X dX6_paintBusyHoursIn_30 (by rw [hN]; decide) (fun _ => rfl)) fun day_15 =>
  (ST_seq (ST_if (CE_2 wI (XE_4 (pB := pI) wR wI wR (L_aload_n (r := meeting_) 4 X dX6_paintBusyHoursIn_32 rfl rfl) (L_iload_n (x := person_) 5 X dX6_paintBusyHoursIn_33 rfl rfl) (L_aload_n (r := held_3) 2 X dX6_paintBusyHoursIn_34 rfl rfl) (L_iload (x := day_15) 0 X dX6_paintBusyHoursIn_35 rfl) (fun v0 v1 v2 v3 st mm a b hd hc hs h => g_callVo (st := st) (cI := 1) X hT htr rfl (fun q => M_X0_rankByDate q v1 v2 v3) lk_X0_rankByDate im_X0_rankByDate se_X0_rankByDate ml_X6_407 rfl (by rw [hR]; exact ⟨Nat.le_of_ble_eq_true rfl, Nat.le_of_ble_eq_true rfl⟩) (Nat.le_trans hd (by decide)) ⟨hc, hs⟩ dX6_paintBusyHoursIn_37 h)) (L_iconst (v := 2) X dX6_paintBusyHoursIn_40 (by decide)) (C_eq_F X dX6_paintBusyHoursIn_41 (by decide)))
  (ST_do (XE_3 (pB := pU) wR wI (L_aload_n (r := (some this)) 3 X dX6_paintBusyHoursIn_44 rfl rfl) (XE_2 (pB := pI) wR (L_aload_n (r := held_3) 2 X dX6_paintBusyHoursIn_45 rfl rfl) (L_iload (x := day_15) 0 X dX6_paintBusyHoursIn_46 rfl) (fun v0 v1 st mm a b hd hc hs h => g_callVo (st := st) (cI := 5) X hT htr rfl (fun q => M_X4_beginOf q v1) lk_X4_beginOf im_X4_beginOf se_X4_beginOf ml_X6_288 rfl (by rw [hR]; exact ⟨Nat.le_of_ble_eq_true rfl, Nat.le_of_ble_eq_true rfl⟩) (Nat.le_trans hd (by decide)) ⟨hc, hs⟩ dX6_paintBusyHoursIn_48 h)) (XE_1 (L_aload_n (r := held_3) 2 X dX6_paintBusyHoursIn_51 rfl rfl) (O_gi (c := 5) (j := 4) X rfl inW4 (by decide) fl_X6_405 rfl dX6_paintBusyHoursIn_52)) (fun v0 v1 v2 st mm a b hd hc hs h => g_callVo (st := st) (cI := 7) X hT htr rfl (fun q => M_X6_paintHours q v1 v2) lk_X6_paintHours im_X6_paintHours se_X6_paintHours ml_X6_424 rfl (by rw [hR]; exact ⟨Nat.le_of_ble_eq_true rfl, Nat.le_of_ble_eq_true rfl⟩) (Nat.le_trans hd (by decide)) ⟨hc, hs⟩ dX6_paintBusyHoursIn_55 h))
  (ST_done (upd := (fun (s : Unit) => [(5, .int day_15), (4, .int s5), (3, va_rf held_3), (0, va_rf (some this)), (1, va_rf meeting_), (2, .int person_)])) (s := ()) [0, 1, 2, 3, 4, 5] rfl))
  (ST_done (upd := (fun (s : Unit) => [(5, .int day_15), (4, .int s5), (3, va_rf held_3), (0, va_rf (some this)), (1, va_rf meeting_), (2, .int person_)])) (s := ()) [0, 1, 2, 3, 4, 5] rfl)) fun s29 =>
  (ST_pre (env' := [(4, .int (s5 + 1)), (5, .int day_15), (3, va_rf held_3), (0, va_rf (some this)), (1, va_rf meeting_), (2, .int person_)]) (S_iinc 1 X dX6_paintBusyHoursIn_58 rfl rfl (by rw [hN]; decide) (by cases held_3 <;> rfl))
  (ST_done (upd := (fun (s : Int32) => [(4, .int s), (3, va_rf held_3), (0, va_rf (some this)), (1, va_rf meeting_), (2, .int person_)])) (s := (s5 + 1)) [0, 2, 3, 4, 5] rfl)))) fun _ mm a b h => S_goto X dX6_paintBusyHoursIn_61 (by decide) [] mm a b h))) fun s30 =>
  (SB_retU X C hr dX6_paintBusyHoursIn_64)))) h (by rw [hR]; decide) (by rw [hR]; decide)
theorem dX6_paintBusyHours_0 : decode cX6_paintBusyHours 0 = .ok (.aload_n 0, 1) := by decide +kernel
theorem dX6_paintBusyHours_1 : decode cX6_paintBusyHours 1 = .ok (.getfield 37, 3) := by decide +kernel
theorem dX6_paintBusyHours_4 : decode cX6_paintBusyHours 4 = .ok (.iconst 0, 1) := by decide +kernel
theorem dX6_paintBusyHours_5 : decode cX6_paintBusyHours 5 = .ok (.invokestatic 414, 3) := by decide +kernel
theorem dX6_paintBusyHours_8 : decode cX6_paintBusyHours 8 = .ok (.iconst 0, 1) := by decide +kernel
theorem dX6_paintBusyHours_9 : decode cX6_paintBusyHours 9 = .ok (.istore_n 2, 1) := by decide +kernel
theorem dX6_paintBusyHours_10 : decode cX6_paintBusyHours 10 = .ok (.iload_n 2, 1) := by decide +kernel
theorem dX6_paintBusyHours_11 : decode cX6_paintBusyHours 11 = .ok (.iconst 5, 1) := by decide +kernel
theorem dX6_paintBusyHours_12 : decode cX6_paintBusyHours 12 = .ok (.if_icmp .ge 44, 3) := by decide +kernel
theorem dX6_paintBusyHours_15 : decode cX6_paintBusyHours 15 = .ok (.iconst 0, 1) := by decide +kernel
theorem dX6_paintBusyHours_16 : decode cX6_paintBusyHours 16 = .ok (.istore_n 3, 1) := by decide +kernel
theorem dX6_paintBusyHours_17 : decode cX6_paintBusyHours 17 = .ok (.iload_n 1, 1) := by decide +kernel
theorem dX6_paintBusyHours_18 : decode cX6_paintBusyHours 18 = .ok (.iload_n 2, 1) := by decide +kernel
theorem dX6_paintBusyHours_19 : decode cX6_paintBusyHours 19 = .ok (.invokestatic 153, 3) := by decide +kernel
theorem dX6_paintBusyHours_22 : decode cX6_paintBusyHours 22 = .ok (.ifCond .eq 28, 3) := by decide +kernel
theorem dX6_paintBusyHours_25 : decode cX6_paintBusyHours 25 = .ok (.iload_n 3, 1) := by decide +kernel
theorem dX6_paintBusyHours_26 : decode cX6_paintBusyHours 26 = .ok (.aload_n 0, 1) := by decide +kernel
theorem dX6_paintBusyHours_27 : decode cX6_paintBusyHours 27 = .ok (.getfield 78, 3) := by decide +kernel
theorem dX6_paintBusyHours_30 : decode cX6_paintBusyHours 30 = .ok (.if_icmp .ge 20, 3) := by decide +kernel
theorem dX6_paintBusyHours_33 : decode cX6_paintBusyHours 33 = .ok (.aload_n 0, 1) := by decide +kernel
theorem dX6_paintBusyHours_34 : decode cX6_paintBusyHours 34 = .ok (.aload_n 0, 1) := by decide +kernel
theorem dX6_paintBusyHours_35 : decode cX6_paintBusyHours 35 = .ok (.getfield 23, 3) := by decide +kernel
theorem dX6_paintBusyHours_38 : decode cX6_paintBusyHours 38 = .ok (.iload_n 3, 1) := by decide +kernel
theorem dX6_paintBusyHours_39 : decode cX6_paintBusyHours 39 = .ok (.aaload, 1) := by decide +kernel
theorem dX6_paintBusyHours_40 : decode cX6_paintBusyHours 40 = .ok (.iload_n 2, 1) := by decide +kernel
theorem dX6_paintBusyHours_41 : decode cX6_paintBusyHours 41 = .ok (.invokevirtual 420, 3) := by decide +kernel
theorem dX6_paintBusyHours_44 : decode cX6_paintBusyHours 44 = .ok (.iinc 3 1, 3) := by decide +kernel
theorem dX6_paintBusyHours_47 : decode cX6_paintBusyHours 47 = .ok (.goto (-30), 3) := by decide +kernel
theorem dX6_paintBusyHours_50 : decode cX6_paintBusyHours 50 = .ok (.iinc 2 1, 3) := by decide +kernel
theorem dX6_paintBusyHours_53 : decode cX6_paintBusyHours 53 = .ok (.goto (-43), 3) := by decide +kernel
theorem dX6_paintBusyHours_56 : decode cX6_paintBusyHours 56 = .ok (.return_, 1) := by decide +kernel
theorem lk_X6_paintBusyHours : LK yX6_paintBusyHours cX6_paintBusyHours 4 none 1 := ⟨qW_at 604 (by decide +kernel) rfl, qW_at 29 (by decide +kernel) rfl, by decide, by decide, by decide +kernel⟩
theorem im_X6_paintBusyHours : Cond.instanceMethod yX6_paintBusyHours ∈ qW := qW_at 603 (by decide +kernel) rfl
theorem se_X6_paintBusyHours : Cond.selects RX6 yX6_paintBusyHours yX6_paintBusyHours ∈ qW := qW_at 13 (by decide +kernel) rfl
def F_X6_paintBusyHours (this : Nat) (people_ : Int32) : QX Unit :=
  (xb (xb (xb (xp (some this)) fun v1 => xgr 7 8 v1) fun v2 => xb (xp (0 : Int32)) fun v3 => F_J7_fill_031fb v2 v3) fun _ =>
  (xb (xp (0 : Int32)) fun person_4 =>
  (xb (xl 2000 (fun (s5 : Int32) => (xb (xp s5) fun v6 => xb (xp (5 : Int32)) fun v7 => xp (decide (v6 < v7)))) (fun (s5 : Int32) =>
  (xb (xp (0 : Int32)) fun number_8 =>
  (xb (xl 2000 (fun (s9 : Int32) => (xb (xb (xb (xp people_) fun v10 => xb (xp s5) fun v11 => F_X6_isIn v10 v11) fun v12 => xp (decide (¬ v12 = 0))) fun v16 => if v16 then (xb (xp s9) fun v13 => xb (xb (xp (some this)) fun v14 => xgi 7 4 v14) fun v15 => xp (decide (v13 < v15))) else xp false)) (fun (s9 : Int32) =>
  (xb (xb (xp (some this)) fun v20 => xb (xb (xb (xp (some this)) fun v17 => xgr 7 2 v17) fun v18 => xb (xp s9) fun v19 => xar 1 v18 v19) fun v21 => xb (xp s5) fun v22 => xo 7 v20 fun q => F_X6_paintBusyHoursIn q v21 v22) fun _ =>
  (xp (s9 + 1)))) number_8) fun s23 =>
  (xp (s5 + 1))))) person_4) fun s24 =>
  (xp ()))))
set_option maxRecDepth 100000 in
set_option maxHeartbeats 4000000 in
theorem M_X6_paintBusyHours (this : Nat) (people_ : Int32) : MM yX6_paintBusyHours cX6_paintBusyHours 4 none 5 115 0 0 encU [.ref this, .int people_] (F_X6_paintBusyHours this people_) := by
  refine MM_of (env0 := [(0, va_rf (some this)), (1, .int people_)]) (by decide) (by exact Nat.le_of_ble_eq_true rfl) (by rfl) (fun k mm res X C hR hN hr hname h => ?_)
  have X : CX k cX6_paintBusyHours RX6 := X
  have hT : TH k (fun e m' => res = (.error e, m')) := TH_of C
  have htr := C.2.2.2.1
  unfold F_X6_paintBusyHours at h
  exact SB_go (T := fun e m' => res = (.error e, m')) (RET := fun v m' => res = (.ok v, m')) (SB_do (XE_2 (pB := pU) wR (XE_1 (L_aload_n (r := (some this)) 0 X dX6_paintBusyHours_0 rfl rfl) (O_gr (c := 7) (j := 8) X rfl inW6 (by decide) fl_X6_37 rfl dX6_paintBusyHours_1)) (L_iconst (v := 0) X dX6_paintBusyHours_4 (by decide)) (fun v0 v1 st mm a b hd hc hs h => g_callS (st := st) X hT htr (M_J7_fill_031fb v0 v1) lk_J7_fill_031fb st_J7_fill_031fb ml_X6_414 rfl (by rw [hR]; exact ⟨Nat.le_of_ble_eq_true rfl, Nat.le_of_ble_eq_true rfl⟩) (Nat.le_trans hd (by decide)) ⟨hc, hs⟩ dX6_paintBusyHours_5 h))
  (SB_let (L_iconst (v := 0) X dX6_paintBusyHours_8 (by decide)) (S_istore_n (ev := fun person_4 => [(2, .int person_4), (0, va_rf (some this)), (1, .int people_)]) X dX6_paintBusyHours_9 rfl (by rw [hN]; decide) (fun _ => rfl)) fun person_4 =>
  (SB_seq (ST_loop (σ := Int32) (upd := (fun (s : Int32) => [(2, .int s), (0, va_rf (some this)), (1, .int people_)])) (s0 := person_4) (n := 2000) (fun mm a b h => GG_sub [0, 1, 2] rfl h)
  (fun s5 => (CE_2 wI (L_iload_n (x := s5) 0 X dX6_paintBusyHours_10 rfl rfl) (L_iconst (v := 5) X dX6_paintBusyHours_11 (by decide)) (C_lt_F X dX6_paintBusyHours_12 (by decide))))
  (fun s5 => (ST_post (ST_let (L_iconst (v := 0) X dX6_paintBusyHours_15 (by decide)) (S_istore_n (ev := fun number_8 => [(3, .int number_8), (2, .int s5), (0, va_rf (some this)), (1, .int people_)]) X dX6_paintBusyHours_16 rfl (by rw [hN]; decide) (fun _ => rfl)) fun number_8 =>
  (ST_seq (ST_loop (σ := Int32) (upd := (fun (s : Int32) => [(3, .int s), (2, .int s5), (0, va_rf (some this)), (1, .int people_)])) (s0 := number_8) (n := 2000) (fun mm a b h => GG_sub [0, 1, 2, 3] rfl h)
  (fun s9 => (CE_and (CE_1 (XE_2 (pB := pI) wI (L_iload_n (x := people_) 3 X dX6_paintBusyHours_17 rfl rfl) (L_iload_n (x := s5) 1 X dX6_paintBusyHours_18 rfl rfl) (fun v0 v1 st mm a b hd hc hs h => g_callS (st := st) X hT htr (M_X6_isIn v0 v1) lk_X6_isIn st_X6_isIn ml_X6_153 rfl (by rw [hR]; exact ⟨Nat.le_of_ble_eq_true rfl, Nat.le_of_ble_eq_true rfl⟩) (Nat.le_trans hd (by decide)) ⟨hc, hs⟩ dX6_paintBusyHours_19 h)) (Z_ne_F X dX6_paintBusyHours_22 (by decide))) (CE_2 wI (L_iload_n (x := s9) 0 X dX6_paintBusyHours_25 rfl rfl) (XE_1 (L_aload_n (r := (some this)) 2 X dX6_paintBusyHours_26 rfl rfl) (O_gi (c := 7) (j := 4) X rfl inW6 (by decide) fl_X6_78 rfl dX6_paintBusyHours_27)) (C_lt_F X dX6_paintBusyHours_30 (by decide)))))
  (fun s9 => (ST_post (ST_do (XE_3 (pB := pU) wR wR (L_aload_n (r := (some this)) 2 X dX6_paintBusyHours_33 rfl rfl) (XE_2 wR (XE_1 (L_aload_n (r := (some this)) 2 X dX6_paintBusyHours_34 rfl rfl) (O_gr (c := 7) (j := 2) X rfl inW6 (by decide) fl_X6_23 rfl dX6_paintBusyHours_35)) (L_iload_n (x := s9) 0 X dX6_paintBusyHours_38 rfl rfl) (O_ar (c := 1) X (by decide) rfl dX6_paintBusyHours_39)) (L_iload_n (x := s5) 1 X dX6_paintBusyHours_40 rfl rfl) (fun v0 v1 v2 st mm a b hd hc hs h => g_callVo (st := st) (cI := 7) X hT htr rfl (fun q => M_X6_paintBusyHoursIn q v1 v2) lk_X6_paintBusyHoursIn im_X6_paintBusyHoursIn se_X6_paintBusyHoursIn ml_X6_420 rfl (by rw [hR]; exact ⟨Nat.le_of_ble_eq_true rfl, Nat.le_of_ble_eq_true rfl⟩) (Nat.le_trans hd (by decide)) ⟨hc, hs⟩ dX6_paintBusyHours_41 h))
  (ST_pre (env' := [(3, .int (s9 + 1)), (2, .int s5), (0, va_rf (some this)), (1, .int people_)]) (S_iinc 0 X dX6_paintBusyHours_44 rfl rfl (by rw [hN]; decide) rfl)
  (ST_done (upd := (fun (s : Int32) => [(3, .int s), (2, .int s5), (0, va_rf (some this)), (1, .int people_)])) (s := (s9 + 1)) [0, 1, 2, 3] rfl))) fun _ mm a b h => S_goto X dX6_paintBusyHours_47 (by decide) [] mm a b h))) fun s23 =>
  (ST_pre (env' := [(2, .int (s5 + 1)), (3, .int s23), (0, va_rf (some this)), (1, .int people_)]) (S_iinc 1 X dX6_paintBusyHours_50 rfl rfl (by rw [hN]; decide) rfl)
  (ST_done (upd := (fun (s : Int32) => [(2, .int s), (0, va_rf (some this)), (1, .int people_)])) (s := (s5 + 1)) [0, 2, 3] rfl)))) fun _ mm a b h => S_goto X dX6_paintBusyHours_53 (by decide) [] mm a b h))) fun s24 =>
  (SB_retU X C hr dX6_paintBusyHours_56)))) h (by rw [hR]; decide) (by rw [hR]; decide)
