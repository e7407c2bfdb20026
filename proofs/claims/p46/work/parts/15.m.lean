theorem dX6_firstFreeByHours_0 : decode cX6_firstFreeByHours 0 = .ok (.iload_n 1, 1) := by decide +kernel
theorem dX6_firstFreeByHours_1 : decode cX6_firstFreeByHours 1 = .ok (.iload_n 2, 1) := by decide +kernel
theorem dX6_firstFreeByHours_2 : decode cX6_firstFreeByHours 2 = .ok (.iload_n 3, 1) := by decide +kernel
theorem dX6_firstFreeByHours_3 : decode cX6_firstFreeByHours 3 = .ok (.invokestatic 325, 3) := by decide +kernel
theorem dX6_firstFreeByHours_6 : decode cX6_firstFreeByHours 6 = .ok (.aload_n 0, 1) := by decide +kernel
theorem dX6_firstFreeByHours_7 : decode cX6_firstFreeByHours 7 = .ok (.iload_n 1, 1) := by decide +kernel
theorem dX6_firstFreeByHours_8 : decode cX6_firstFreeByHours 8 = .ok (.invokevirtual 332, 3) := by decide +kernel
theorem dX6_firstFreeByHours_11 : decode cX6_firstFreeByHours 11 = .ok (.iload_n 2, 1) := by decide +kernel
theorem dX6_firstFreeByHours_12 : decode cX6_firstFreeByHours 12 = .ok (.istore 4, 2) := by decide +kernel
theorem dX6_firstFreeByHours_14 : decode cX6_firstFreeByHours 14 = .ok (.iload_n 2, 1) := by decide +kernel
theorem dX6_firstFreeByHours_15 : decode cX6_firstFreeByHours 15 = .ok (.istore 5, 2) := by decide +kernel
theorem dX6_firstFreeByHours_17 : decode cX6_firstFreeByHours 17 = .ok (.iload 5, 2) := by decide +kernel
theorem dX6_firstFreeByHours_19 : decode cX6_firstFreeByHours 19 = .ok (.sipush 1600, 3) := by decide +kernel
theorem dX6_firstFreeByHours_22 : decode cX6_firstFreeByHours 22 = .ok (.if_icmp .gt 38, 3) := by decide +kernel
theorem dX6_firstFreeByHours_25 : decode cX6_firstFreeByHours 25 = .ok (.iload 5, 2) := by decide +kernel
theorem dX6_firstFreeByHours_27 : decode cX6_firstFreeByHours 27 = .ok (.iload 4, 2) := by decide +kernel
theorem dX6_firstFreeByHours_29 : decode cX6_firstFreeByHours 29 = .ok (.iload_n 3, 1) := by decide +kernel
theorem dX6_firstFreeByHours_30 : decode cX6_firstFreeByHours 30 = .ok (.iadd, 1) := by decide +kernel
theorem dX6_firstFreeByHours_31 : decode cX6_firstFreeByHours 31 = .ok (.if_icmp .ge 29, 3) := by decide +kernel
theorem dX6_firstFreeByHours_34 : decode cX6_firstFreeByHours 34 = .ok (.aload_n 0, 1) := by decide +kernel
theorem dX6_firstFreeByHours_35 : decode cX6_firstFreeByHours 35 = .ok (.getfield 37, 3) := by decide +kernel
theorem dX6_firstFreeByHours_38 : decode cX6_firstFreeByHours 38 = .ok (.iload 5, 2) := by decide +kernel
theorem dX6_firstFreeByHours_40 : decode cX6_firstFreeByHours 40 = .ok (.bipush (-48), 2) := by decide +kernel
theorem dX6_firstFreeByHours_42 : decode cX6_firstFreeByHours 42 = .ok (.isub, 1) := by decide +kernel
theorem dX6_firstFreeByHours_43 : decode cX6_firstFreeByHours 43 = .ok (.baload, 1) := by decide +kernel
theorem dX6_firstFreeByHours_44 : decode cX6_firstFreeByHours 44 = .ok (.iconst 1, 1) := by decide +kernel
theorem dX6_firstFreeByHours_45 : decode cX6_firstFreeByHours 45 = .ok (.if_icmp .ne 9, 3) := by decide +kernel
theorem dX6_firstFreeByHours_48 : decode cX6_firstFreeByHours 48 = .ok (.iload 5, 2) := by decide +kernel
theorem dX6_firstFreeByHours_50 : decode cX6_firstFreeByHours 50 = .ok (.iconst 1, 1) := by decide +kernel
theorem dX6_firstFreeByHours_51 : decode cX6_firstFreeByHours 51 = .ok (.iadd, 1) := by decide +kernel
theorem dX6_firstFreeByHours_52 : decode cX6_firstFreeByHours 52 = .ok (.istore 4, 2) := by decide +kernel
theorem dX6_firstFreeByHours_54 : decode cX6_firstFreeByHours 54 = .ok (.iinc 5 1, 3) := by decide +kernel
theorem dX6_firstFreeByHours_57 : decode cX6_firstFreeByHours 57 = .ok (.goto (-40), 3) := by decide +kernel
theorem dX6_firstFreeByHours_60 : decode cX6_firstFreeByHours 60 = .ok (.iload 4, 2) := by decide +kernel
theorem dX6_firstFreeByHours_62 : decode cX6_firstFreeByHours 62 = .ok (.ireturn, 1) := by decide +kernel
theorem lk_X6_firstFreeByHours : LK yX6_firstFreeByHours cX6_firstFreeByHours 6 (some .int) 3 := ⟨qW_at 600 (by decide +kernel) rfl, qW_at 29 (by decide +kernel) rfl, by decide, by decide, by decide +kernel⟩
theorem im_X6_firstFreeByHours : Cond.instanceMethod yX6_firstFreeByHours ∈ qW := qW_at 598 (by decide +kernel) rfl
theorem se_X6_firstFreeByHours : Cond.selects RX6 yX6_firstFreeByHours yX6_firstFreeByHours ∈ qW := qW_at 599 (by decide +kernel) rfl
def F_X6_firstFreeByHours (this : Nat) (people_ : Int32) (from_ : Int32) (length_ : Int32) : QX Int32 :=
  (xb (xb (xp people_) fun v1 => xb (xp from_) fun v2 => xb (xp length_) fun v3 => F_X6_needSearch v1 v2 v3) fun _ =>
  (xb (xb (xp (some this)) fun v4 => xb (xp people_) fun v5 => xo 7 v4 fun q => F_X6_paintBusyHours q v5) fun _ =>
  (xb (xp from_) fun start_6 =>
  (xb (xp from_) fun hour_7 =>
  (xb (xl 2000 (fun (s8 : Int32 × Int32) => (xb (xb (xp s8.2) fun v9 => xb (xp (1600 : Int32)) fun v10 => xp (decide (v9 ≤ v10))) fun v15 => if v15 then (xb (xp s8.2) fun v11 => xb (xb (xp s8.1) fun v12 => xb (xp length_) fun v13 => (xp (v12 + v13))) fun v14 => xp (decide (v11 < v14))) else xp false)) (fun (s8 : Int32 × Int32) =>
  (xb (xb (xb (xb (xb (xp (some this)) fun v16 => xgr 7 8 v16) fun v19 => xb (xb (xp s8.2) fun v17 => xb (xp (-48 : Int32)) fun v18 => (xp (v17 - v18))) fun v20 => xai 2 v19 v20) fun v21 => xb (xp (1 : Int32)) fun v22 => xp (decide (v21 = v22))) fun v26 => if v26 then (xb (xb (xp s8.2) fun v23 => xb (xp (1 : Int32)) fun v24 => (xp (v23 + v24))) fun start_25 =>
  (xp start_25)) else (xp s8.1)) fun s27 =>
  (xp (s27, (s8.2 + 1))))) (start_6, hour_7)) fun s28 =>
  (xp s28.1))))))
set_option maxRecDepth 100000 in
set_option maxHeartbeats 4000000 in
theorem M_X6_firstFreeByHours (this : Nat) (people_ : Int32) (from_ : Int32) (length_ : Int32) : MM yX6_firstFreeByHours cX6_firstFreeByHours 6 (some .int) 9 145 3 18 encI [.ref this, .int people_, .int from_, .int length_] (F_X6_firstFreeByHours this people_ from_ length_) := by
  refine MM_of (env0 := [(0, va_rf (some this)), (1, .int people_), (2, .int from_), (3, .int length_)]) (by decide) (by exact Nat.le_of_ble_eq_true rfl) (by rfl) (fun k mm res X C hR hN hr hname h => ?_)
  have X : CX k cX6_firstFreeByHours RX6 := X
  have hT : TH k (fun e m' => res = (.error e, m')) := TH_of C
  have htr := C.2.2.2.1
  unfold F_X6_firstFreeByHours at h
  exact SB_go (T := fun e m' => res = (.error e, m')) (RET := fun v m' => res = (.ok v, m')) (SB_do (XE_3 (pB := pU) wI wI (L_iload_n (x := people_) 1 X dX6_firstFreeByHours_0 rfl rfl) (L_iload_n (x := from_) 2 X dX6_firstFreeByHours_1 rfl rfl) (L_iload_n (x := length_) 3 X dX6_firstFreeByHours_2 rfl rfl) (fun v0 v1 v2 st mm a b hd hc hs h => g_callS (st := st) X hT htr (M_X6_needSearch v0 v1 v2) lk_X6_needSearch st_X6_needSearch ml_X6_325 rfl (by rw [hR]; exact ⟨Nat.le_of_ble_eq_true rfl, Nat.le_of_ble_eq_true rfl⟩) (Nat.le_trans hd (by decide)) ⟨hc, hs⟩ dX6_firstFreeByHours_3 h))
  (SB_do (XE_2 (pB := pU) wR (L_aload_n (r := (some this)) 0 X dX6_firstFreeByHours_6 rfl rfl) (L_iload_n (x := people_) 1 X dX6_firstFreeByHours_7 rfl rfl) (fun v0 v1 st mm a b hd hc hs h => g_callVo (st := st) (cI := 7) X hT htr rfl (fun q => M_X6_paintBusyHours q v1) lk_X6_paintBusyHours im_X6_paintBusyHours se_X6_paintBusyHours ml_X6_332 rfl (by rw [hR]; exact ⟨Nat.le_of_ble_eq_true rfl, Nat.le_of_ble_eq_true rfl⟩) (Nat.le_trans hd (by decide)) ⟨hc, hs⟩ dX6_firstFreeByHours_8 h))
  (SB_let (L_iload_n (x := from_) 2 X dX6_firstFreeByHours_11 rfl rfl) (S_istore (ev := fun start_6 => [(4, .int start_6), (0, va_rf (some this)), (1, .int people_), (2, .int from_), (3, .int length_)]) X dX6_firstFreeByHours_12 (by rw [hN]; decide) (fun _ => rfl)) fun start_6 =>
  (SB_let (L_iload_n (x := from_) 3 X dX6_firstFreeByHours_14 rfl rfl) (S_istore (ev := fun hour_7 => [(5, .int hour_7), (4, .int start_6), (0, va_rf (some this)), (1, .int people_), (2, .int from_), (3, .int length_)]) X dX6_firstFreeByHours_15 (by rw [hN]; decide) (fun _ => rfl)) fun hour_7 =>
  (SB_seq (ST_loop (σ := Int32 × Int32) (upd := (fun (s : Int32 × Int32) => [(5, .int s.2), (4, .int s.1), (0, va_rf (some this)), (1, .int people_), (2, .int from_), (3, .int length_)])) (s0 := (start_6, hour_7)) (n := 2000) (fun mm a b h => GG_sub [0, 1, 2, 3, 4, 5] rfl h)
  (fun s8 => (CE_and (CE_2 wI (L_iload (x := s8.2) 0 X dX6_firstFreeByHours_17 rfl) (L_sipush (v := (1600)) X dX6_firstFreeByHours_19 (by decide)) (C_le_F X dX6_firstFreeByHours_22 (by decide))) (CE_2 wI (L_iload (x := s8.2) 0 X dX6_firstFreeByHours_25 rfl) (XE_2 wI (L_iload (x := s8.1) 1 X dX6_firstFreeByHours_27 rfl) (L_iload_n (x := length_) 5 X dX6_firstFreeByHours_29 rfl rfl) (O_iadd X dX6_firstFreeByHours_30)) (C_lt_F X dX6_firstFreeByHours_31 (by decide)))))
  (fun s8 => (ST_post (ST_seq (ST_if (CE_2 wI (XE_2 wR (XE_1 (L_aload_n (r := (some this)) 2 X dX6_firstFreeByHours_34 rfl rfl) (O_gr (c := 7) (j := 8) X rfl inW6 (by decide) fl_X6_37 rfl dX6_firstFreeByHours_35)) (XE_2 wI (L_iload (x := s8.2) 0 X dX6_firstFreeByHours_38 rfl) (L_bipush (v := (-48)) X dX6_firstFreeByHours_40 (by decide)) (O_isub X dX6_firstFreeByHours_42)) (O_ab X dX6_firstFreeByHours_43)) (L_iconst (v := 1) X dX6_firstFreeByHours_44 (by decide)) (C_eq_F X dX6_firstFreeByHours_45 (by decide)))
  (ST_let (XE_2 wI (L_iload (x := s8.2) 0 X dX6_firstFreeByHours_48 rfl) (L_iconst (v := 1) X dX6_firstFreeByHours_50 (by decide)) (O_iadd X dX6_firstFreeByHours_51)) (S_istore (ev := fun start_25 => [(4, .int start_25), (5, .int s8.2), (0, va_rf (some this)), (1, .int people_), (2, .int from_), (3, .int length_)]) X dX6_firstFreeByHours_52 (by rw [hN]; decide) (fun _ => rfl)) fun start_25 =>
  (ST_done (upd := (fun (s : Int32) => [(5, .int s8.2), (4, .int s), (0, va_rf (some this)), (1, .int people_), (2, .int from_), (3, .int length_)])) (s := start_25) [1, 0, 2, 3, 4, 5] rfl))
  (ST_done (upd := (fun (s : Int32) => [(5, .int s8.2), (4, .int s), (0, va_rf (some this)), (1, .int people_), (2, .int from_), (3, .int length_)])) (s := s8.1) [0, 1, 2, 3, 4, 5] rfl)) fun s27 =>
  (ST_pre (env' := [(5, .int (s8.2 + 1)), (4, .int s27), (0, va_rf (some this)), (1, .int people_), (2, .int from_), (3, .int length_)]) (S_iinc 0 X dX6_firstFreeByHours_54 rfl rfl (by rw [hN]; decide) rfl)
  (ST_done (upd := (fun (s : Int32 × Int32) => [(5, .int s.2), (4, .int s.1), (0, va_rf (some this)), (1, .int people_), (2, .int from_), (3, .int length_)])) (s := (s27, (s8.2 + 1))) [0, 1, 2, 3, 4, 5] rfl))) fun _ mm a b h => S_goto X dX6_firstFreeByHours_57 (by decide) [] mm a b h))) fun s28 =>
  (SB_retI X C hr dX6_firstFreeByHours_62 (L_iload (x := s28.1) 1 X dX6_firstFreeByHours_60 rfl))))))) h (by rw [hR]; decide) (by rw [hR]; decide)
theorem dX6_mark_0 : decode cX6_mark 0 = .ok (.iload_n 1, 1) := by decide +kernel
theorem dX6_mark_1 : decode cX6_mark 1 = .ok (.invokestatic 72, 3) := by decide +kernel
theorem dX6_mark_4 : decode cX6_mark 4 = .ok (.aload_n 0, 1) := by decide +kernel
theorem dX6_mark_5 : decode cX6_mark 5 = .ok (.getfield 17, 3) := by decide +kernel
theorem dX6_mark_8 : decode cX6_mark 8 = .ok (.iload_n 1, 1) := by decide +kernel
theorem dX6_mark_9 : decode cX6_mark 9 = .ok (.aaload, 1) := by decide +kernel
theorem dX6_mark_10 : decode cX6_mark 10 = .ok (.getfield 335, 3) := by decide +kernel
theorem dX6_mark_13 : decode cX6_mark 13 = .ok (.ireturn, 1) := by decide +kernel
theorem lk_X6_mark : LK yX6_mark cX6_mark 2 (some .int) 1 := ⟨qW_at 305 (by decide +kernel) rfl, qW_at 29 (by decide +kernel) rfl, by decide, by decide, by decide +kernel⟩
theorem im_X6_mark : Cond.instanceMethod yX6_mark ∈ qW := qW_at 303 (by decide +kernel) rfl
theorem se_X6_mark : Cond.selects RX6 yX6_mark yX6_mark ∈ qW := qW_at 304 (by decide +kernel) rfl
def F_X6_mark (this : Nat) (person_ : Int32) : QX Int32 :=
  (xb (xb (xp person_) fun v1 => F_X6_needPerson v1) fun _ =>
  (xb (xb (xb (xp (some this)) fun v2 => xgr 7 1 v2) fun v3 => xb (xp person_) fun v4 => xar 3 v3 v4) fun v5 => xgi 3 0 v5))
set_option maxRecDepth 100000 in
set_option maxHeartbeats 4000000 in
theorem M_X6_mark (this : Nat) (person_ : Int32) : MM yX6_mark cX6_mark 2 (some .int) 7 101 1 6 encI [.ref this, .int person_] (F_X6_mark this person_) := by
  refine MM_of (env0 := [(0, va_rf (some this)), (1, .int person_)]) (by decide) (by exact Nat.le_of_ble_eq_true rfl) (by rfl) (fun k mm res X C hR hN hr hname h => ?_)
  have X : CX k cX6_mark RX6 := X
  have hT : TH k (fun e m' => res = (.error e, m')) := TH_of C
  have htr := C.2.2.2.1
  unfold F_X6_mark at h
  exact SB_go (T := fun e m' => res = (.error e, m')) (RET := fun v m' => res = (.ok v, m')) (SB_do (XE_1 (pB := pU)  (L_iload_n (x := person_) 1 X dX6_mark_0 rfl rfl) (fun v0 st mm a b hd hc hs h => g_callS (st := st) X hT htr (M_X6_needPerson v0) lk_X6_needPerson st_X6_needPerson ml_X6_72 rfl (by rw [hR]; exact ⟨Nat.le_of_ble_eq_true rfl, Nat.le_of_ble_eq_true rfl⟩) (Nat.le_trans hd (by decide)) ⟨hc, hs⟩ dX6_mark_1 h))
  (SB_retI X C hr dX6_mark_13 (XE_1 (XE_2 wR (XE_1 (L_aload_n (r := (some this)) 0 X dX6_mark_4 rfl rfl) (O_gr (c := 7) (j := 1) X rfl inW6 (by decide) fl_X6_17 rfl dX6_mark_5)) (L_iload_n (x := person_) 1 X dX6_mark_8 rfl rfl) (O_ar (c := 3) X (by decide) rfl dX6_mark_9)) (O_gi (c := 3) (j := 0) X rfl inW2 (by decide) fl_X6_335 rfl dX6_mark_10)))) h (by rw [hR]; decide) (by rw [hR]; decide)
theorem dX6_personAskedFrom_0 : decode cX6_personAskedFrom 0 = .ok (.iload_n 1, 1) := by decide +kernel
theorem dX6_personAskedFrom_1 : decode cX6_personAskedFrom 1 = .ok (.invokestatic 72, 3) := by decide +kernel
theorem dX6_personAskedFrom_4 : decode cX6_personAskedFrom 4 = .ok (.aload_n 0, 1) := by decide +kernel
theorem dX6_personAskedFrom_5 : decode cX6_personAskedFrom 5 = .ok (.getfield 17, 3) := by decide +kernel
theorem dX6_personAskedFrom_8 : decode cX6_personAskedFrom 8 = .ok (.iload_n 1, 1) := by decide +kernel
theorem dX6_personAskedFrom_9 : decode cX6_personAskedFrom 9 = .ok (.aaload, 1) := by decide +kernel
theorem dX6_personAskedFrom_10 : decode cX6_personAskedFrom 10 = .ok (.astore_n 3, 1) := by decide +kernel
theorem dX6_personAskedFrom_11 : decode cX6_personAskedFrom 11 = .ok (.iload_n 2, 1) := by decide +kernel
theorem dX6_personAskedFrom_12 : decode cX6_personAskedFrom 12 = .ok (.iconst 0, 1) := by decide +kernel
theorem dX6_personAskedFrom_13 : decode cX6_personAskedFrom 13 = .ok (.aload_n 3, 1) := by decide +kernel
theorem dX6_personAskedFrom_14 : decode cX6_personAskedFrom 14 = .ok (.getfield 335, 3) := by decide +kernel
theorem dX6_personAskedFrom_17 : decode cX6_personAskedFrom 17 = .ok (.invokestatic 47, 3) := by decide +kernel
theorem dX6_personAskedFrom_20 : decode cX6_personAskedFrom 20 = .ok (.iload_n 2, 1) := by decide +kernel
theorem dX6_personAskedFrom_21 : decode cX6_personAskedFrom 21 = .ok (.aload_n 3, 1) := by decide +kernel
theorem dX6_personAskedFrom_22 : decode cX6_personAskedFrom 22 = .ok (.getfield 357, 3) := by decide +kernel
theorem dX6_personAskedFrom_25 : decode cX6_personAskedFrom 25 = .ok (.if_icmp .lt 7, 3) := by decide +kernel
theorem dX6_personAskedFrom_28 : decode cX6_personAskedFrom 28 = .ok (.iconst 1, 1) := by decide +kernel
theorem dX6_personAskedFrom_29 : decode cX6_personAskedFrom 29 = .ok (.goto 4, 3) := by decide +kernel
theorem dX6_personAskedFrom_32 : decode cX6_personAskedFrom 32 = .ok (.iconst 0, 1) := by decide +kernel
theorem dX6_personAskedFrom_33 : decode cX6_personAskedFrom 33 = .ok (.invokestatic 81, 3) := by decide +kernel
theorem dX6_personAskedFrom_36 : decode cX6_personAskedFrom 36 = .ok (.aload_n 3, 1) := by decide +kernel
theorem dX6_personAskedFrom_37 : decode cX6_personAskedFrom 37 = .ok (.areturn, 1) := by decide +kernel
theorem lk_X6_personAskedFrom : LK yX6_personAskedFrom cX6_personAskedFrom 4 (some (.object "MeetingServer$Person")) 2 := ⟨qW_at 336 (by decide +kernel) rfl, qW_at 29 (by decide +kernel) rfl, by decide, by decide, by decide +kernel⟩
theorem im_X6_personAskedFrom : Cond.instanceMethod yX6_personAskedFrom ∈ qW := qW_at 335 (by decide +kernel) rfl
theorem se_X6_personAskedFrom : Cond.selects RX6 yX6_personAskedFrom yX6_personAskedFrom ∈ qW := qW_at 4 (by decide +kernel) rfl
def F_X6_personAskedFrom (this : Nat) (person_ : Int32) (mark_ : Int32) : QX (Option Nat) :=
  (xb (xb (xp person_) fun v1 => F_X6_needPerson v1) fun _ =>
  (xb (xb (xb (xp (some this)) fun v2 => xgr 7 1 v2) fun v3 => xb (xp person_) fun v4 => xar 3 v3 v4) fun asked_5 =>
  (xb (xb (xp mark_) fun v7 => xb (xp (0 : Int32)) fun v8 => xb (xb (xp asked_5) fun v6 => xgi 3 0 v6) fun v9 => F_X6_needRange v7 v8 v9) fun _ =>
  (xb (xb (xb (xb (xp mark_) fun v10 => xb (xb (xp asked_5) fun v11 => xgi 3 1 v11) fun v12 => xp (decide (v12 ≤ v10))) fun v13 => xp (b2i v13)) fun v14 => F_X6_needState v14) fun _ =>
  (xp asked_5)))))
set_option maxRecDepth 100000 in
set_option maxHeartbeats 4000000 in
theorem M_X6_personAskedFrom (this : Nat) (person_ : Int32) (mark_ : Int32) : MM yX6_personAskedFrom cX6_personAskedFrom 4 (some (.object "MeetingServer$Person")) 8 123 3 18 encR [.ref this, .int person_, .int mark_] (F_X6_personAskedFrom this person_ mark_) := by
  refine MM_of (env0 := [(0, va_rf (some this)), (1, .int person_), (2, .int mark_)]) (by decide) (by exact Nat.le_of_ble_eq_true rfl) (by rfl) (fun k mm res X C hR hN hr hname h => ?_)
  have X : CX k cX6_personAskedFrom RX6 := X
  have hT : TH k (fun e m' => res = (.error e, m')) := TH_of C
  have htr := C.2.2.2.1
  unfold F_X6_personAskedFrom at h
  exact SB_go (T := fun e m' => res = (.error e, m')) (RET := fun v m' => res = (.ok v, m')) (SB_do (XE_1 (pB := pU)  (L_iload_n (x := person_) 1 X dX6_personAskedFrom_0 rfl rfl) (fun v0 st mm a b hd hc hs h => g_callS (st := st) X hT htr (M_X6_needPerson v0) lk_X6_needPerson st_X6_needPerson ml_X6_72 rfl (by rw [hR]; exact ⟨Nat.le_of_ble_eq_true rfl, Nat.le_of_ble_eq_true rfl⟩) (Nat.le_trans hd (by decide)) ⟨hc, hs⟩ dX6_personAskedFrom_1 h))
  (SB_let (XE_2 wR (XE_1 (L_aload_n (r := (some this)) 0 X dX6_personAskedFrom_4 rfl rfl) (O_gr (c := 7) (j := 1) X rfl inW6 (by decide) fl_X6_17 rfl dX6_personAskedFrom_5)) (L_iload_n (x := person_) 1 X dX6_personAskedFrom_8 rfl rfl) (O_ar (c := 3) X (by decide) rfl dX6_personAskedFrom_9)) (S_astore_n (ev := fun asked_5 => [(3, va_rf asked_5), (0, va_rf (some this)), (1, .int person_), (2, .int mark_)]) X dX6_personAskedFrom_10 rfl (by rw [hN]; decide) (fun _ => rfl)) fun asked_5 =>
  (SB_do (XE_3 (pB := pU) wI wI (L_iload_n (x := mark_) 3 X dX6_personAskedFrom_11 rfl rfl) (L_iconst (v := 0) X dX6_personAskedFrom_12 (by decide)) (XE_1 (L_aload_n (r := asked_5) 0 X dX6_personAskedFrom_13 rfl rfl) (O_gi (c := 3) (j := 0) X rfl inW2 (by decide) fl_X6_335 rfl dX6_personAskedFrom_14)) (fun v0 v1 v2 st mm a b hd hc hs h => g_callS (st := st) X hT htr (M_X6_needRange v0 v1 v2) lk_X6_needRange st_X6_needRange ml_X6_47 rfl (by rw [hR]; exact ⟨Nat.le_of_ble_eq_true rfl, Nat.le_of_ble_eq_true rfl⟩) (Nat.le_trans hd (by decide)) ⟨hc, hs⟩ dX6_personAskedFrom_17 h))
  (SB_do (XE_1 (pB := pU)  (XE_b2i (CE_2 wI (L_iload_n (x := mark_) 3 X dX6_personAskedFrom_20 rfl rfl) (XE_1 (L_aload_n (r := asked_5) 0 X dX6_personAskedFrom_21 rfl rfl) (O_gi (c := 3) (j := 1) X rfl inW2 (by decide) fl_X6_357 rfl dX6_personAskedFrom_22)) (C_ge_F X dX6_personAskedFrom_25 (by decide))) (S_b1 X dX6_personAskedFrom_28 dX6_personAskedFrom_29 (by decide)) (S_b0 X dX6_personAskedFrom_32)) (fun v0 st mm a b hd hc hs h => g_callS (st := st) X hT htr (M_X6_needState v0) lk_X6_needState st_X6_needState ml_X6_81 rfl (by rw [hR]; exact ⟨Nat.le_of_ble_eq_true rfl, Nat.le_of_ble_eq_true rfl⟩) (Nat.le_trans hd (by decide)) ⟨hc, hs⟩ dX6_personAskedFrom_33 h))
  (SB_retR X C hr (Or.inl ⟨_, rfl⟩) dX6_personAskedFrom_37 (L_aload_n (r := asked_5) 0 X dX6_personAskedFrom_36 rfl rfl)))))) h (by rw [hR]; decide) (by rw [hR]; decide)
theorem dX6_changes_0 : decode cX6_changes 0 = .ok (.aload_n 0, 1) := by decide +kernel
theorem dX6_changes_1 : decode cX6_changes 1 = .ok (.iload_n 1, 1) := by decide +kernel
theorem dX6_changes_2 : decode cX6_changes 2 = .ok (.iload_n 2, 1) := by decide +kernel
theorem dX6_changes_3 : decode cX6_changes 3 = .ok (.invokevirtual 338, 3) := by decide +kernel
theorem dX6_changes_6 : decode cX6_changes 6 = .ok (.iload_n 2, 1) := by decide +kernel
theorem dX6_changes_7 : decode cX6_changes 7 = .ok (.invokevirtual 342, 3) := by decide +kernel
theorem dX6_changes_10 : decode cX6_changes 10 = .ok (.ireturn, 1) := by decide +kernel
theorem lk_X6_changes : LK yX6_changes cX6_changes 3 (some .int) 2 := ⟨qW_at 332 (by decide +kernel) rfl, qW_at 29 (by decide +kernel) rfl, by decide, by decide, by decide +kernel⟩
theorem im_X6_changes : Cond.instanceMethod yX6_changes ∈ qW := qW_at 330 (by decide +kernel) rfl
theorem se_X6_changes : Cond.selects RX6 yX6_changes yX6_changes ∈ qW := qW_at 331 (by decide +kernel) rfl
def F_X6_changes (this : Nat) (person_ : Int32) (mark_ : Int32) : QX Int32 :=
  (xb (xb (xp (some this)) fun v1 => xb (xp person_) fun v2 => xb (xp mark_) fun v3 => xo 7 v1 fun q => F_X6_personAskedFrom q v2 v3) fun v4 => xb (xp mark_) fun v5 => xo 3 v4 fun q => F_X2_entriesAbove q v5)
set_option maxRecDepth 100000 in
set_option maxHeartbeats 4000000 in
theorem M_X6_changes (this : Nat) (person_ : Int32) (mark_ : Int32) : MM yX6_changes cX6_changes 3 (some .int) 9 146 3 18 encI [.ref this, .int person_, .int mark_] (F_X6_changes this person_ mark_) := by
  refine MM_of (env0 := [(0, va_rf (some this)), (1, .int person_), (2, .int mark_)]) (by decide) (by exact Nat.le_of_ble_eq_true rfl) (by rfl) (fun k mm res X C hR hN hr hname h => ?_)
  have X : CX k cX6_changes RX6 := X
  have hT : TH k (fun e m' => res = (.error e, m')) := TH_of C
  have htr := C.2.2.2.1
  unfold F_X6_changes at h
  exact SB_go (T := fun e m' => res = (.error e, m')) (RET := fun v m' => res = (.ok v, m')) (SB_retI X C hr dX6_changes_10 (XE_2 (pB := pI) wR (XE_3 (pB := pR) wR wI (L_aload_n (r := (some this)) 0 X dX6_changes_0 rfl rfl) (L_iload_n (x := person_) 1 X dX6_changes_1 rfl rfl) (L_iload_n (x := mark_) 2 X dX6_changes_2 rfl rfl) (fun v0 v1 v2 st mm a b hd hc hs h => g_callVo (st := st) (cI := 7) X hT htr rfl (fun q => M_X6_personAskedFrom q v1 v2) lk_X6_personAskedFrom im_X6_personAskedFrom se_X6_personAskedFrom ml_X6_338 rfl (by rw [hR]; exact ⟨Nat.le_of_ble_eq_true rfl, Nat.le_of_ble_eq_true rfl⟩) (Nat.le_trans hd (by decide)) ⟨hc, hs⟩ dX6_changes_3 h)) (L_iload_n (x := mark_) 2 X dX6_changes_6 rfl rfl) (fun v0 v1 st mm a b hd hc hs h => g_callVo (st := st) (cI := 3) X hT htr rfl (fun q => M_X2_entriesAbove q v1) lk_X2_entriesAbove im_X2_entriesAbove se_X2_entriesAbove ml_X6_342 rfl (by rw [hR]; exact ⟨Nat.le_of_ble_eq_true rfl, Nat.le_of_ble_eq_true rfl⟩) (Nat.le_trans hd (by decide)) ⟨hc, hs⟩ dX6_changes_7 h))) h (by rw [hR]; decide) (by rw [hR]; decide)
theorem dX6_changeAt_0 : decode cX6_changeAt 0 = .ok (.aload_n 0, 1) := by decide +kernel
theorem dX6_changeAt_1 : decode cX6_changeAt 1 = .ok (.iload_n 1, 1) := by decide +kernel
theorem dX6_changeAt_2 : decode cX6_changeAt 2 = .ok (.iload_n 2, 1) := by decide +kernel
theorem dX6_changeAt_3 : decode cX6_changeAt 3 = .ok (.invokevirtual 338, 3) := by decide +kernel
theorem dX6_changeAt_6 : decode cX6_changeAt 6 = .ok (.astore 4, 2) := by decide +kernel
theorem dX6_changeAt_8 : decode cX6_changeAt 8 = .ok (.iload_n 3, 1) := by decide +kernel
theorem dX6_changeAt_9 : decode cX6_changeAt 9 = .ok (.aload 4, 2) := by decide +kernel
theorem dX6_changeAt_11 : decode cX6_changeAt 11 = .ok (.iload_n 2, 1) := by decide +kernel
theorem dX6_changeAt_12 : decode cX6_changeAt 12 = .ok (.invokevirtual 342, 3) := by decide +kernel
theorem dX6_changeAt_15 : decode cX6_changeAt 15 = .ok (.invokestatic 261, 3) := by decide +kernel
theorem dX6_changeAt_18 : decode cX6_changeAt 18 = .ok (.iconst (-1), 1) := by decide +kernel
theorem dX6_changeAt_19 : decode cX6_changeAt 19 = .ok (.istore 5, 2) := by decide +kernel
theorem dX6_changeAt_21 : decode cX6_changeAt 21 = .ok (.iconst 0, 1) := by decide +kernel
theorem dX6_changeAt_22 : decode cX6_changeAt 22 = .ok (.istore 6, 2) := by decide +kernel
theorem dX6_changeAt_24 : decode cX6_changeAt 24 = .ok (.iload 6, 2) := by decide +kernel
theorem dX6_changeAt_26 : decode cX6_changeAt 26 = .ok (.bipush 8, 2) := by decide +kernel
theorem dX6_changeAt_28 : decode cX6_changeAt 28 = .ok (.if_icmp .ge 47, 3) := by decide +kernel
theorem dX6_changeAt_31 : decode cX6_changeAt 31 = .ok (.iload 5, 2) := by decide +kernel
theorem dX6_changeAt_33 : decode cX6_changeAt 33 = .ok (.iconst (-1), 1) := by decide +kernel
theorem dX6_changeAt_34 : decode cX6_changeAt 34 = .ok (.if_icmp .ne 41, 3) := by decide +kernel
theorem dX6_changeAt_37 : decode cX6_changeAt 37 = .ok (.aload 4, 2) := by decide +kernel
theorem dX6_changeAt_39 : decode cX6_changeAt 39 = .ok (.getfield 345, 3) := by decide +kernel
theorem dX6_changeAt_42 : decode cX6_changeAt 42 = .ok (.iload 6, 2) := by decide +kernel
theorem dX6_changeAt_44 : decode cX6_changeAt 44 = .ok (.iaload, 1) := by decide +kernel
theorem dX6_changeAt_45 : decode cX6_changeAt 45 = .ok (.istore 7, 2) := by decide +kernel
theorem dX6_changeAt_47 : decode cX6_changeAt 47 = .ok (.iload 7, 2) := by decide +kernel
theorem dX6_changeAt_49 : decode cX6_changeAt 49 = .ok (.iload_n 2, 1) := by decide +kernel
theorem dX6_changeAt_50 : decode cX6_changeAt 50 = .ok (.if_icmp .le 19, 3) := by decide +kernel
theorem dX6_changeAt_53 : decode cX6_changeAt 53 = .ok (.aload 4, 2) := by decide +kernel
theorem dX6_changeAt_55 : decode cX6_changeAt 55 = .ok (.iload_n 2, 1) := by decide +kernel
theorem dX6_changeAt_56 : decode cX6_changeAt 56 = .ok (.iload 7, 2) := by decide +kernel
theorem dX6_changeAt_58 : decode cX6_changeAt 58 = .ok (.invokevirtual 348, 3) := by decide +kernel
theorem dX6_changeAt_61 : decode cX6_changeAt 61 = .ok (.iload_n 3, 1) := by decide +kernel
theorem dX6_changeAt_62 : decode cX6_changeAt 62 = .ok (.if_icmp .ne 7, 3) := by decide +kernel
theorem dX6_changeAt_65 : decode cX6_changeAt 65 = .ok (.iload 6, 2) := by decide +kernel
theorem dX6_changeAt_67 : decode cX6_changeAt 67 = .ok (.istore 5, 2) := by decide +kernel
theorem dX6_changeAt_69 : decode cX6_changeAt 69 = .ok (.iinc 6 1, 3) := by decide +kernel
theorem dX6_changeAt_72 : decode cX6_changeAt 72 = .ok (.goto (-48), 3) := by decide +kernel
theorem dX6_changeAt_75 : decode cX6_changeAt 75 = .ok (.iload 5, 2) := by decide +kernel
theorem dX6_changeAt_77 : decode cX6_changeAt 77 = .ok (.ireturn, 1) := by decide +kernel
theorem lk_X6_changeAt : LK yX6_changeAt cX6_changeAt 8 (some .int) 3 := ⟨qW_at 406 (by decide +kernel) rfl, qW_at 29 (by decide +kernel) rfl, by decide, by decide, by decide +kernel⟩
theorem im_X6_changeAt : Cond.instanceMethod yX6_changeAt ∈ qW := qW_at 404 (by decide +kernel) rfl
theorem se_X6_changeAt : Cond.selects RX6 yX6_changeAt yX6_changeAt ∈ qW := qW_at 405 (by decide +kernel) rfl
def F_X6_changeAt (this : Nat) (person_ : Int32) (mark_ : Int32) (place_ : Int32) : QX Int32 :=
  (xb (xb (xp (some this)) fun v1 => xb (xp person_) fun v2 => xb (xp mark_) fun v3 => xo 7 v1 fun q => F_X6_personAskedFrom q v2 v3) fun asked_4 =>
  (xb (xb (xp place_) fun v7 => xb (xb (xp asked_4) fun v5 => xb (xp mark_) fun v6 => xo 3 v5 fun q => F_X2_entriesAbove q v6) fun v8 => F_X6_needPlace v7 v8) fun _ =>
  (xb (xp (-1 : Int32)) fun found_9 =>
  (xb (xp (0 : Int32)) fun number_10 =>
  (xb (xl 2000 (fun (s11 : Int32 × Int32) => (xb (xb (xp s11.2) fun v12 => xb (xp (8 : Int32)) fun v13 => xp (decide (v12 < v13))) fun v16 => if v16 then (xb (xp s11.1) fun v14 => xb (xp (-1 : Int32)) fun v15 => xp (decide (v14 = v15))) else xp false)) (fun (s11 : Int32 × Int32) =>
  (xb (xb (xb (xp asked_4) fun v17 => xgr 3 2 v17) fun v18 => xb (xp s11.2) fun v19 => xai 0 v18 v19) fun entry_20 =>
  (xb (xb (xb (xb (xp entry_20) fun v21 => xb (xp mark_) fun v22 => xp (decide (v22 < v21))) fun v28 => if v28 then (xb (xb (xp asked_4) fun v23 => xb (xp mark_) fun v24 => xb (xp entry_20) fun v25 => xo 3 v23 fun q => F_X2_entriesBetween q v24 v25) fun v26 => xb (xp place_) fun v27 => xp (decide (v26 = v27))) else xp false) fun v30 => if v30 then (xb (xp s11.2) fun found_29 =>
  (xp found_29)) else (xp s11.1)) fun s31 =>
  (xp (s31, (s11.2 + 1)))))) (found_9, number_10)) fun s32 =>
  (xp s32.1))))))
set_option maxRecDepth 100000 in
set_option maxHeartbeats 4000000 in
theorem M_X6_changeAt (this : Nat) (person_ : Int32) (mark_ : Int32) (place_ : Int32) : MM yX6_changeAt cX6_changeAt 8 (some .int) 9 146 4 24 encI [.ref this, .int person_, .int mark_, .int place_] (F_X6_changeAt this person_ mark_ place_) := by
  refine MM_of (env0 := [(0, va_rf (some this)), (1, .int person_), (2, .int mark_), (3, .int place_)]) (by decide) (by exact Nat.le_of_ble_eq_true rfl) (by rfl) (fun k mm res X C hR hN hr hname h => ?_)
  have X : CX k cX6_changeAt RX6 := X
  have hT : TH k (fun e m' => res = (.error e, m')) := TH_of C
  have htr := C.2.2.2.1
  unfold F_X6_changeAt at h
  exact SB_go (T := fun e m' => res = (.error e, m')) (RET := fun v m' => res = (.ok v, m')) (SB_let (XE_3 (pB := pR) wR wI (L_aload_n (r := (some this)) 0 X dX6_changeAt_0 rfl rfl) (L_iload_n (x := person_) 1 X dX6_changeAt_1 rfl rfl) (L_iload_n (x := mark_) 2 X dX6_changeAt_2 rfl rfl) (fun v0 v1 v2 st mm a b hd hc hs h => g_callVo (st := st) (cI := 7) X hT htr rfl (fun q => M_X6_personAskedFrom q v1 v2) lk_X6_personAskedFrom im_X6_personAskedFrom se_X6_personAskedFrom ml_X6_338 rfl (by rw [hR]; exact ⟨Nat.le_of_ble_eq_true rfl, Nat.le_of_ble_eq_true rfl⟩) (Nat.le_trans hd (by decide)) ⟨hc, hs⟩ dX6_changeAt_3 h)) (S_astore (ev := fun asked_4 => [(4, va_rf asked_4), (0, va_rf (some this)), (1, .int person_), (2, .int mark_), (3, .int place_)]) X dX6_changeAt_6 (by rw [hN]; decide) (fun _ => rfl)) fun asked_4 =>
  (SB_do (XE_2 (pB := pU) wI (L_iload_n (x := place_) 4 X dX6_changeAt_8 rfl rfl) (XE_2 (pB := pI) wR (L_aload (r := asked_4) 0 X dX6_changeAt_9 rfl) (L_iload_n (x := mark_) 3 X dX6_changeAt_11 rfl rfl) (fun v0 v1 st mm a b hd hc hs h => g_callVo (st := st) (cI := 3) X hT htr rfl (fun q => M_X2_entriesAbove q v1) lk_X2_entriesAbove im_X2_entriesAbove se_X2_entriesAbove ml_X6_342 rfl (by rw [hR]; exact ⟨Nat.le_of_ble_eq_true rfl, Nat.le_of_ble_eq_true rfl⟩) (Nat.le_trans hd (by decide)) ⟨hc, hs⟩ dX6_changeAt_12 h)) (fun v0 v1 st mm a b hd hc hs h => g_callS (st := st) X hT htr (M_X6_needPlace v0 v1) lk_X6_needPlace st_X6_needPlace ml_X6_261 rfl (by rw [hR]; exact ⟨Nat.le_of_ble_eq_true rfl, Nat.le_of_ble_eq_true rfl⟩) (Nat.le_trans hd (by decide)) ⟨hc, hs⟩ dX6_changeAt_15 h))
  (SB_let (L_iconst (v := (-1)) X dX6_changeAt_18 (by decide)) (S_istore (ev := fun found_9 => [(5, .int found_9), (4, va_rf asked_4), (0, va_rf (some this)), (1, .int person_), (2, .int mark_), (3, .int place_)]) X dX6_changeAt_19 (by rw [hN]; decide) (fun _ => (by cases asked_4 <;> rfl))) fun found_9 =>
  (SB_let (L_iconst (v := 0) X dX6_changeAt_21 (by decide)) (S_istore (ev := fun number_10 => [(6, .int number_10), (5, .int found_9), (4, va_rf asked_4), (0, va_rf (some this)), (1, .int person_), (2, .int mark_), (3, .int place_)]) X dX6_changeAt_22 (by rw [hN]; decide) (fun _ => rfl)) fun number_10 =>
  (SB_seq (ST_loop (σ := Int32 × Int32) (upd := (fun (s : Int32 × Int32) => [(6, .int s.2), (5, .int s.1), (4, va_rf asked_4), (0, va_rf (some this)), (1, .int person_), (2, .int mark_), (3, .int place_)])) (s0 := (found_9, number_10)) (n := 2000) (fun mm a b h => GG_sub [0, 1, 2, 3, 4, 5, 6] rfl h)
  (fun s11 => (CE_and (CE_2 wI (L_iload (x := s11.2) 0 X dX6_changeAt_24 rfl) (L_bipush (v := (8)) X dX6_changeAt_26 (by decide)) (C_lt_F X dX6_changeAt_28 (by decide))) (CE_2 wI (L_iload (x := s11.1) 1 X dX6_changeAt_31 rfl) (L_iconst (v := (-1)) X dX6_changeAt_33 (by decide)) (C_eq_F X dX6_changeAt_34 (by decide)))))
  (fun s11 => (ST_post (ST_let (XE_2 wR (XE_1 (L_aload (r := asked_4) 2 X dX6_changeAt_37 rfl) (O_gr (c := 3) (j := 2) X rfl inW2 (by decide) fl_X6_345 rfl dX6_changeAt_39)) (L_iload (x := s11.2) 0 X dX6_changeAt_42 rfl) (O_ai X dX6_changeAt_44)) (S_istore (ev := fun entry_20 => [(7, .int entry_20), (6, .int s11.2), (5, .int s11.1), (4, va_rf asked_4), (0, va_rf (some this)), (1, .int person_), (2, .int mark_), (3, .int place_)]) X dX6_changeAt_45 (by rw [hN]; decide) (fun _ => rfl)) fun entry_20 =>
  (ST_seq (ST_if (CE_and (CE_2 wI (L_iload (x := entry_20) 0 X dX6_changeAt_47 rfl) (L_iload_n (x := mark_) 6 X dX6_changeAt_49 rfl rfl) (C_gt_F X dX6_changeAt_50 (by decide))) (CE_2 wI (XE_3 (pB := pI) wR wI (L_aload (r := asked_4) 3 X dX6_changeAt_53 rfl) (L_iload_n (x := mark_) 6 X dX6_changeAt_55 rfl rfl) (L_iload (x := entry_20) 0 X dX6_changeAt_56 rfl) (fun v0 v1 v2 st mm a b hd hc hs h => g_callVo (st := st) (cI := 3) X hT htr rfl (fun q => M_X2_entriesBetween q v1 v2) lk_X2_entriesBetween im_X2_entriesBetween se_X2_entriesBetween ml_X6_348 rfl (by rw [hR]; exact ⟨Nat.le_of_ble_eq_true rfl, Nat.le_of_ble_eq_true rfl⟩) (Nat.le_trans hd (by decide)) ⟨hc, hs⟩ dX6_changeAt_58 h)) (L_iload_n (x := place_) 7 X dX6_changeAt_61 rfl rfl) (C_eq_F X dX6_changeAt_62 (by decide))))
  (ST_let (L_iload (x := s11.2) 1 X dX6_changeAt_65 rfl) (S_istore (ev := fun found_29 => [(5, .int found_29), (7, .int entry_20), (6, .int s11.2), (4, va_rf asked_4), (0, va_rf (some this)), (1, .int person_), (2, .int mark_), (3, .int place_)]) X dX6_changeAt_67 (by rw [hN]; decide) (fun _ => (by cases asked_4 <;> rfl))) fun found_29 =>
  (ST_done (upd := (fun (s : Int32) => [(7, .int entry_20), (6, .int s11.2), (5, .int s), (4, va_rf asked_4), (0, va_rf (some this)), (1, .int person_), (2, .int mark_), (3, .int place_)])) (s := found_29) [1, 2, 0, 3, 4, 5, 6, 7] rfl))
  (ST_done (upd := (fun (s : Int32) => [(7, .int entry_20), (6, .int s11.2), (5, .int s), (4, va_rf asked_4), (0, va_rf (some this)), (1, .int person_), (2, .int mark_), (3, .int place_)])) (s := s11.1) [0, 1, 2, 3, 4, 5, 6, 7] rfl)) fun s31 =>
  (ST_pre (env' := [(6, .int (s11.2 + 1)), (7, .int entry_20), (5, .int s31), (4, va_rf asked_4), (0, va_rf (some this)), (1, .int person_), (2, .int mark_), (3, .int place_)]) (S_iinc 1 X dX6_changeAt_69 rfl rfl (by rw [hN]; decide) rfl)
  (ST_done (upd := (fun (s : Int32 × Int32) => [(6, .int s.2), (5, .int s.1), (4, va_rf asked_4), (0, va_rf (some this)), (1, .int person_), (2, .int mark_), (3, .int place_)])) (s := (s31, (s11.2 + 1))) [0, 2, 3, 4, 5, 6, 7] rfl)))) fun _ mm a b h => S_goto X dX6_changeAt_72 (by decide) [] mm a b h))) fun s32 =>
  (SB_retI X C hr dX6_changeAt_77 (L_iload (x := s32.1) 1 X dX6_changeAt_75 rfl))))))) h (by rw [hR]; decide) (by rw [hR]; decide)
