theorem dX6_firstFreeByHours_0 : decode cX6_firstFreeByHours 0 = .ok (.iload_n 1, 1) := by decide +kernel
theorem dX6_firstFreeByHours_1 : decode cX6_firstFreeByHours 1 = .ok (.iload_n 2, 1) := by decide +kernel
theorem dX6_firstFreeByHours_2 : decode cX6_firstFreeByHours 2 = .ok (.iload_n 3, 1) := by decide +kernel
theorem dX6_firstFreeByHours_3 : decode cX6_firstFreeByHours 3 = .ok (.invokestatic 325, 3) := by decide +kernel
theorem dX6_firstFreeByHours_6 : decode cX6_firstFreeByHours 6 = .ok (.aload_n 0, 1) := by decide +kernel
theorem dX6_firstFreeByHours_7 : decode cX6_firstFreeByHours 7 = .ok (.iload_n 1, 1) := by decide +kernel
theorem dX6_firstFreeByHours_8 : decode cX6_firstFreeByHours 8 = .ok (.invokevirtual 332, 3) := by decide +kernel
theorem dX6_firstFreeByHours_11 : decode cX6_firstFreeByHours 11 = .ok (.iload_n 2, 1) := by decide +kernel
theorem dX6_firstFreeByHours_12 : decode cX6_firstFreeByHours 12 = .ok (.istore 4, 2) := by decide +kernel
theorem dX6_firstFreeByHours_14 : decode cX6_firstFreeByHours 14 = .ok (.iload_n 2, 1) := by decide +kernel
theorem dX6_firstFreeByHours_15 : decode cX6_firstFreeByHours 15 = .ok (.istore 5, 2) := by decide +kernel
theorem dX6_firstFreeByHours_17 : decode cX6_firstFreeByHours 17 = .ok (.iload 5, 2) := by decide +kernel
theorem dX6_firstFreeByHours_19 : decode cX6_firstFreeByHours 19 = .ok (.sipush 1600, 3) := by decide +kernel
theorem dX6_firstFreeByHours_22 : decode cX6_firstFreeByHours 22 = .ok (.if_icmp .gt 38, 3) := by decide +kernel
theorem dX6_firstFreeByHours_25 : decode cX6_firstFreeByHours 25 = .ok (.iload 5, 2) := by decide +kernel
theorem dX6_firstFreeByHours_27 : decode cX6_firstFreeByHours 27 = .ok (.iload 4, 2) := by decide +kernel
theorem dX6_firstFreeByHours_29 : decode cX6_firstFreeByHours 29 = .ok (.iload_n 3, 1) := by decide +kernel
theorem dX6_firstFreeByHours_30 : decode cX6_firstFreeByHours 30 = .ok (.iadd, 1) := by decide +kernel
theorem dX6_firstFreeByHours_31 : decode cX6_firstFreeByHours 31 = .ok (.if_icmp .ge 29, 3) := by decide +kernel
theorem dX6_firstFreeByHours_34 : decode cX6_firstFreeByHours 34 = .ok (.aload_n 0, 1) := by decide +kernel
theorem dX6_firstFreeByHours_35 : decode cX6_firstFreeByHours 35 = .ok (.getfield 37, 3) := by decide +kernel
theorem dX6_firstFreeByHours_38 : decode cX6_firstFreeByHours 38 = .ok (.iload 5, 2) := by decide +kernel
theorem dX6_firstFreeByHours_40 : decode cX6_firstFreeByHours 40 = .ok (.bipush (-48), 2) := by decide +kernel
theorem dX6_firstFreeByHours_42 : decode cX6_firstFreeByHours 42 = .ok (.isub, 1) := by decide +kernel
theorem dX6_firstFreeByHours_43 : decode cX6_firstFreeByHours 43 = .ok (.baload, 1) := by decide +kernel
theorem dX6_firstFreeByHours_44 : decode cX6_firstFreeByHours 44 = .ok (.iconst 1, 1) := by decide +kernel
theorem dX6_firstFreeByHours_45 : decode cX6_firstFreeByHours 45 = .ok (.if_icmp .ne 9, 3) := by decide +kernel
theorem dX6_firstFreeByHours_48 : decode cX6_firstFreeByHours 48 = .ok (.iload 5, 2) := by decide +kernel
theorem dX6_firstFreeByHours_50 : decode cX6_firstFreeByHours 50 = .ok (.iconst 1, 1) := by decide +kernel
theorem dX6_firstFreeByHours_51 : decode cX6_firstFreeByHours 51 = .ok (.iadd, 1) := by decide +kernel
theorem dX6_firstFreeByHours_52 : decode cX6_firstFreeByHours 52 = .ok (.istore 4, 2) := by decide +kernel
theorem dX6_firstFreeByHours_54 : decode cX6_firstFreeByHours 54 = .ok (.iinc 5 1, 3) := by decide +kernel
theorem dX6_firstFreeByHours_57 : decode cX6_firstFreeByHours 57 = .ok (.goto (-40), 3) := by decide +kernel
theorem dX6_firstFreeByHours_60 : decode cX6_firstFreeByHours 60 = .ok (.iload 4, 2) := by decide +kernel
theorem dX6_firstFreeByHours_62 : decode cX6_firstFreeByHours 62 = .ok (.ireturn, 1) := by decide +kernel
theorem lk_X6_firstFreeByHours : LK yX6_firstFreeByHours cX6_firstFreeByHours 6 (some .int) 3 := ⟨qW_at 1243 (by decide +kernel) rfl, qW_at 75 (by decide +kernel) rfl, by decide, by decide, by decide +kernel⟩
theorem im_X6_firstFreeByHours : Cond.instanceMethod yX6_firstFreeByHours ∈ qW := qW_at 1241 (by decide +kernel) rfl
theorem se_X6_firstFreeByHours : Cond.selects RX6 yX6_firstFreeByHours yX6_firstFreeByHours ∈ qW := qW_at 1242 (by decide +kernel) rfl
def F_X6_firstFreeByHours (this : Nat) (people_ : Int32) (from_ : Int32) (length_ : Int32) : QX Int32 :=
  (xb (xb (xp people_) fun v1 => xb (xp from_) fun v2 => xb (xp length_) fun v3 => F_X6_needSearch v1 v2 v3) fun _ =>
  (xb (xb (xp (some this)) fun v4 => xb (xp people_) fun v5 => xo 7 v4 fun q => F_X6_paintBusyHours q v5) fun _ =>
  (xb (xp from_) fun start_6 =>
  (xb (xp from_) fun hour_7 =>
  (xb (xl 2000 (fun (s8 : Int32 × Int32) => (xb (xb (xp s8.2) fun v9 => xb (xp (1600 : Int32)) fun v10 => xp (decide (v9 ≤ v10))) fun v15 => if v15 then (xb (xp s8.2) fun v11 => xb (xb (xp s8.1) fun v12 => xb (xp length_) fun v13 => (xp (v12 + v13))) fun v14 => xp (decide (v11 < v14))) else xp false)) (fun (s8 : Int32 × Int32) =>
  (xb (xb (xb (xb (xb (xp (some this)) fun v16 => xgr 7 8 v16) fun v19 => xb (xb (xp s8.2) fun v17 => xb (xp (-48 : Int32)) fun v18 => (xp (v17 - v18))) fun v20 => xai 2 v19 v20) fun v21 => xb (xp (1 : Int32)) fun v22 => xp (decide (v21 = v22))) fun v26 => if v26 then (xb (xb (xp s8.2) fun v23 => xb (xp (1 : Int32)) fun v24 => (xp (v23 + v24))) fun start_25 =>
  (xp start_25)) else (xp s8.1)) fun s27 =>
  (xp (s27, (s8.2 + 1))))) (start_6, hour_7)) fun s28 =>
  (xp s28.1))))))
set_option maxRecDepth 100000 in
set_option maxHeartbeats 4000000 in
theorem M_X6_firstFreeByHours (this : Nat) (people_ : Int32) (from_ : Int32) (length_ : Int32) : MM yX6_firstFreeByHours cX6_firstFreeByHours 6 (some .int) 9 145 3 18 encI [.ref this, .int people_, .int from_, .int length_] (F_X6_firstFreeByHours this people_ from_ length_) := by
  refine MM_of (env0 := [(0, va_rf (some this)), (1, .int people_), (2, .int from_), (3, .int length_)]) (by decide) (by exact Nat.le_of_ble_eq_true rfl) (by rfl) (fun k mm res X C hR hN hr hname h => ?_)
  have X : CX k cX6_firstFreeByHours RX6 := X
  have hT : TH k (fun e m' => res = (.error e, m')) := TH_of C
  have htr := C.2.2.2.1
  unfold F_X6_firstFreeByHours at h
  exact SB_go (T := fun e m' => res = (.error e, m')) (RET := fun v m' => res = (.ok v, m')) (SB_do (XE_3 (pB := pU) wI wI (L_iload_n (x := people_) 1 X dX6_firstFreeByHours_0 rfl rfl) (L_iload_n (x := from_) 2 X dX6_firstFreeByHours_1 rfl rfl) (L_iload_n (x := length_) 3 X dX6_firstFreeByHours_2 rfl rfl) (fun v0 v1 v2 st mm a b hd hc hs h => g_callS (st := st) X hT htr (M_X6_needSearch v0 v1 v2) lk_X6_needSearch st_X6_needSearch ml_X6_325 rfl (by rw [hR]; exact ⟨Nat.le_of_ble_eq_true rfl, Nat.le_of_ble_eq_true rfl⟩) (Nat.le_trans hd (by decide)) ⟨hc, hs⟩ dX6_firstFreeByHours_3 h))
  (SB_do (XE_2 (pB := pU) wR (L_aload_n (r := (some this)) 0 X dX6_firstFreeByHours_6 rfl rfl) (L_iload_n (x := people_) 1 X dX6_firstFreeByHours_7 rfl rfl) (fun v0 v1 st mm a b hd hc hs h => g_callVo (st := st) (cI := 7) X hT htr rfl (fun q => M_X6_paintBusyHours q v1) lk_X6_paintBusyHours im_X6_paintBusyHours se_X6_paintBusyHours ml_X6_332 rfl (by rw [hR]; exact ⟨Nat.le_of_ble_eq_true rfl, Nat.le_of_ble_eq_true rfl⟩) (Nat.le_trans hd (by decide)) ⟨hc, hs⟩ dX6_firstFreeByHours_8 h))
  (SB_let (L_iload_n (x := from_) 2 X dX6_firstFreeByHours_11 rfl rfl) (S_istore (ev := fun start_6 => [(4, .int start_6), (0, va_rf (some this)), (1, .int people_), (2, .int from_), (3, .int length_)]) X dX6_firstFreeByHours_12 (by rw [hN]; decide) (fun _ => rfl)) fun start_6 =>
  (SB_let (L_iload_n (x := from_) 3 X dX6_firstFreeByHours_14 rfl rfl) (S_istore (ev := fun hour_7 => [(5, .int hour_7), (4, .int start_6), (0, va_rf (some this)), (1, .int people_), (2, .int from_), (3, .int length_)]) X dX6_firstFreeByHours_15 (by rw [hN]; decide) (fun _ => rfl)) fun hour_7 =>
  (SB_seq (ST_loop (σ := Int32 × Int32) (upd := (fun (s : Int32 × Int32) => [(5, .int s.2), (4, .int s.1), (0, va_rf (some this)), (1, .int people_), (2, .int from_), (3, .int length_)])) (s0 := (start_6, hour_7)) (n := 2000) (fun mm a b h => GG_sub [0, 1, 2, 3, 4, 5] rfl h)
  (fun s8 => (CE_and (CE_2 wI (L_iload (x := s8.2) 0 X dX6_firstFreeByHours_17 rfl) (L_sipush (v := (1600)) X dX6_firstFreeByHours_19 (by decide)) (C_le_F X dX6_firstFreeByHours_22 (by decide))) (CE_2 wI (L_iload (x := s8.2) 0 X dX6_firstFreeByHours_25 rfl) (XE_2 wI (L_iload (x := s8.1) 1 X dX6_firstFreeByHours_27 rfl) (L_iload_n (x := length_) 5 X dX6_firstFreeByHours_29 rfl rfl) (O_iadd X dX6_firstFreeByHours_30)) (C_lt_F X dX6_firstFreeByHours_31 (by decide)))))
  (fun s8 => (ST_post (ST_seq (ST_if (CE_2 wI (XE_2 wR (XE_1 (L_aload_n (r := (some this)) 2 X dX6_firstFreeByHours_34 rfl rfl) (O_gr (c := 7) (j := 8) X rfl inW6 (by decide) fl_X6_37 rfl dX6_firstFreeByHours_35)) (XE_2 wI (L_iload (x := s8.2) 0 X dX6_firstFreeByHours_38 rfl) (L_bipush (v := (-48)) X dX6_firstFreeByHours_40 (by decide)) (O_isub X dX6_firstFreeByHours_42)) (O_ab X dX6_firstFreeByHours_43)) (L_iconst (v := 1) X dX6_firstFreeByHours_44 (by decide)) (C_eq_F X dX6_firstFreeByHours_45 (by decide)))
  (ST_let (XE_2 wI (L_iload (x := s8.2) 0 X dX6_firstFreeByHours_48 rfl) (L_iconst (v := 1) X dX6_firstFreeByHours_50 (by decide)) (O_iadd X dX6_firstFreeByHours_51)) (S_istore (ev := fun start_25 => [(4, .int start_25), (5, .int s8.2), (0, va_rf (some this)), (1, .int people_), (2, .int from_), (3, .int length_)]) X dX6_firstFreeByHours_52 (by rw [hN]; decide) (fun _ => rfl)) fun start_25 =>
  (ST_done (upd := (fun (s : Int32) => [(5, .int s8.2), (4, .int s), (0, va_rf (some this)), (1, .int people_), (2, .int from_), (3, .int length_)])) (s := start_25) [1, 0, 2, 3, 4, 5] rfl))
  (ST_done (upd := (fun (s : Int32) => [(5, .int s8.2), (4, .int s), (0, va_rf (some this)), (1, .int people_), (2, .int from_), (3, .int length_)])) (s := s8.1) [0, 1, 2, 3, 4, 5] rfl)) fun s27 =>
  (ST_pre (env' := [(5, .int (s8.2 + 1)), (4, .int s27), (0, va_rf (some this)), (1, .int people_), (2, .int from_), (3, .int length_)]) (S_iinc 0 X dX6_firstFreeByHours_54 rfl rfl (by rw [hN]; decide) rfl)
  (ST_done (upd := (fun (s : Int32 × Int32) => [(5, .int s.2), (4, .int s.1), (0, va_rf (some this)), (1, .int people_), (2, .int from_), (3, .int length_)])) (s := (s27, (s8.2 + 1))) [0, 1, 2, 3, 4, 5] rfl))) fun _ mm a b h => S_goto X dX6_firstFreeByHours_57 (by decide) [] mm a b h))) fun s28 =>
  (SB_retI X C hr dX6_firstFreeByHours_62 (L_iload (x := s28.1) 1 X dX6_firstFreeByHours_60 rfl))))))) h (by rw [hR]; decide) (by rw [hR]; decide)
theorem dX6_mark_0 : decode cX6_mark 0 = .ok (.iload_n 1, 1) := by decide +kernel
theorem dX6_mark_1 : decode cX6_mark 1 = .ok (.invokestatic 72, 3) := by decide +kernel
theorem dX6_mark_4 : decode cX6_mark 4 = .ok (.aload_n 0, 1) := by decide +kernel
theorem dX6_mark_5 : decode cX6_mark 5 = .ok (.getfield 17, 3) := by decide +kernel
theorem dX6_mark_8 : decode cX6_mark 8 = .ok (.iload_n 1, 1) := by decide +kernel
theorem dX6_mark_9 : decode cX6_mark 9 = .ok (.aaload, 1) := by decide +kernel
theorem dX6_mark_10 : decode cX6_mark 10 = .ok (.getfield 335, 3) := by decide +kernel
theorem dX6_mark_13 : decode cX6_mark 13 = .ok (.ireturn, 1) := by decide +kernel
theorem lk_X6_mark : LK yX6_mark cX6_mark 2 (some .int) 1 := ⟨qW_at 1265 (by decide +kernel) rfl, qW_at 75 (by decide +kernel) rfl, by decide, by decide, by decide +kernel⟩
theorem im_X6_mark : Cond.instanceMethod yX6_mark ∈ qW := qW_at 1263 (by decide +kernel) rfl
theorem se_X6_mark : Cond.selects RX6 yX6_mark yX6_mark ∈ qW := qW_at 1264 (by decide +kernel) rfl
def F_X6_mark (this : Nat) (person_ : Int32) : QX Int32 :=
  (xb (xb (xp person_) fun v1 => F_X6_needPerson v1) fun _ =>
  (xb (xb (xb (xp (some this)) fun v2 => xgr 7 1 v2) fun v3 => xb (xp person_) fun v4 => xar 3 v3 v4) fun v5 => xgi 3 0 v5))
set_option maxRecDepth 100000 in
set_option maxHeartbeats 4000000 in
theorem M_X6_mark (this : Nat) (person_ : Int32) : MM yX6_mark cX6_mark 2 (some .int) 7 101 1 6 encI [.ref this, .int person_] (F_X6_mark this person_) := by
  refine MM_of (env0 := [(0, va_rf (some this)), (1, .int person_)]) (by decide) (by exact Nat.le_of_ble_eq_true rfl) (by rfl) (fun k mm res X C hR hN hr hname h => ?_)
  have X : CX k cX6_mark RX6 := X
  have hT : TH k (fun e m' => res = (.error e, m')) := TH_of C
  have htr := C.2.2.2.1
  unfold F_X6_mark at h
  exact SB_go (T := fun e m' => res = (.error e, m')) (RET := fun v m' => res = (.ok v, m')) (SB_do (XE_1 (pB := pU)  (L_iload_n (x := person_) 1 X dX6_mark_0 rfl rfl) (fun v0 st mm a b hd hc hs h => g_callS (st := st) X hT htr (M_X6_needPerson v0) lk_X6_needPerson st_X6_needPerson ml_X6_72 rfl (by rw [hR]; exact ⟨Nat.le_of_ble_eq_true rfl, Nat.le_of_ble_eq_true rfl⟩) (Nat.le_trans hd (by decide)) ⟨hc, hs⟩ dX6_mark_1 h))
  (SB_retI X C hr dX6_mark_13 (XE_1 (XE_2 wR (XE_1 (L_aload_n (r := (some this)) 0 X dX6_mark_4 rfl rfl) (O_gr (c := 7) (j := 1) X rfl inW6 (by decide) fl_X6_17 rfl dX6_mark_5)) (L_iload_n (x := person_) 1 X dX6_mark_8 rfl rfl) (O_ar (c := 3) X (by decide) rfl dX6_mark_9)) (O_gi (c := 3) (j := 0) X rfl inW2 (by decide) fl_X6_335 rfl dX6_mark_10)))) h (by rw [hR]; decide) (by rw [hR]; decide)
theorem dX6_personAskedFrom_0 : decode cX6_personAskedFrom 0 = .ok (.iload_n 1, 1) := by decide +kernel
theorem dX6_personAskedFrom_1 : decode cX6_personAskedFrom 1 = .ok (.invokestatic 72, 3) := by decide +kernel
theorem dX6_personAskedFrom_4 : decode cX6_personAskedFrom 4 = .ok (.aload_n 0, 1) := by decide +kernel
theorem dX6_personAskedFrom_5 : decode cX6_personAskedFrom 5 = .ok (.getfield 17, 3) := by decide +kernel
theorem dX6_personAskedFrom_8 : decode cX6_personAskedFrom 8 = .ok (.iload_n 1, 1) := by decide +kernel
theorem dX6_personAskedFrom_9 : decode cX6_personAskedFrom 9 = .ok (.aaload, 1) := by decide +kernel
theorem dX6_personAskedFrom_10 : decode cX6_personAskedFrom 10 = .ok (.astore_n 3, 1) := by decide +kernel
theorem dX6_personAskedFrom_11 : decode cX6_personAskedFrom 11 = .ok (.iload_n 2, 1) := by decide +kernel
theorem dX6_personAskedFrom_12 : decode cX6_personAskedFrom 12 = .ok (.iconst 0, 1) := by decide +kernel
theorem dX6_personAskedFrom_13 : decode cX6_personAskedFrom 13 = .ok (.aload_n 3, 1) := by decide +kernel
theorem dX6_personAskedFrom_14 : decode cX6_personAskedFrom 14 = .ok (.getfield 335, 3) := by decide +kernel
theorem dX6_personAskedFrom_17 : decode cX6_personAskedFrom 17 = .ok (.invokestatic 47, 3) := by decide +kernel
theorem dX6_personAskedFrom_20 : decode cX6_personAskedFrom 20 = .ok (.iload_n 2, 1) := by decide +kernel
theorem dX6_personAskedFrom_21 : decode cX6_personAskedFrom 21 = .ok (.aload_n 3, 1) := by decide +kernel
theorem dX6_personAskedFrom_22 : decode cX6_personAskedFrom 22 = .ok (.getfield 357, 3) := by decide +kernel
theorem dX6_personAskedFrom_25 : decode cX6_personAskedFrom 25 = .ok (.if_icmp .lt 7, 3) := by decide +kernel
theorem dX6_personAskedFrom_28 : decode cX6_personAskedFrom 28 = .ok (.iconst 1, 1) := by decide +kernel
theorem dX6_personAskedFrom_29 : decode cX6_personAskedFrom 29 = .ok (.goto 4, 3) := by decide +kernel
theorem dX6_personAskedFrom_32 : decode cX6_personAskedFrom 32 = .ok (.iconst 0, 1) := by decide +kernel
theorem dX6_personAskedFrom_33 : decode cX6_personAskedFrom 33 = .ok (.invokestatic 81, 3) := by decide +kernel
theorem dX6_personAskedFrom_36 : decode cX6_personAskedFrom 36 = .ok (.aload_n 3, 1) := by decide +kernel
theorem dX6_personAskedFrom_37 : decode cX6_personAskedFrom 37 = .ok (.areturn, 1) := by decide +kernel
theorem lk_X6_personAskedFrom : LK yX6_personAskedFrom cX6_personAskedFrom 4 (some (.object "MeetingServer$Person")) 2 := ⟨qW_at 1276 (by decide +kernel) rfl, qW_at 75 (by decide +kernel) rfl, by decide, by decide, by decide +kernel⟩
theorem im_X6_personAskedFrom : Cond.instanceMethod yX6_personAskedFrom ∈ qW := qW_at 1275 (by decide +kernel) rfl
theorem se_X6_personAskedFrom : Cond.selects RX6 yX6_personAskedFrom yX6_personAskedFrom ∈ qW := qW_at 27 (by decide +kernel) rfl
def F_X6_personAskedFrom (this : Nat) (person_ : Int32) (mark_ : Int32) : QX (Option Nat) :=
  (xb (xb (xp person_) fun v1 => F_X6_needPerson v1) fun _ =>
  (xb (xb (xb (xp (some this)) fun v2 => xgr 7 1 v2) fun v3 => xb (xp person_) fun v4 => xar 3 v3 v4) fun asked_5 =>
  (xb (xb (xp mark_) fun v7 => xb (xp (0 : Int32)) fun v8 => xb (xb (xp asked_5) fun v6 => xgi 3 0 v6) fun v9 => F_X6_needRange v7 v8 v9) fun _ =>
  (xb (xb (xb (xb (xp mark_) fun v10 => xb (xb (xp asked_5) fun v11 => xgi 3 1 v11) fun v12 => xp (decide (v12 ≤ v10))) fun v13 => xp (b2i v13)) fun v14 => F_X6_needState v14) fun _ =>
  (xp asked_5)))))
set_option maxRecDepth 100000 in
set_option maxHeartbeats 4000000 in
theorem M_X6_personAskedFrom (this : Nat) (person_ : Int32) (mark_ : Int32) : MM yX6_personAskedFrom cX6_personAskedFrom 4 (some (.object "MeetingServer$Person")) 8 123 3 18 encR [.ref this, .int person_, .int mark_] (F_X6_personAskedFrom this person_ mark_) := by
  refine MM_of (env0 := [(0, va_rf (some this)), (1, .int person_), (2, .int mark_)]) (by decide) (by exact Nat.le_of_ble_eq_true rfl) (by rfl) (fun k mm res X C hR hN hr hname h => ?_)
  have X : CX k cX6_personAskedFrom RX6 := X
  have hT : TH k (fun e m' => res = (.error e, m')) := TH_of C
  have htr := C.2.2.2.1
  unfold F_X6_personAskedFrom at h
  exact SB_go (T := fun e m' => res = (.error e, m')) (RET := fun v m' => res = (.ok v, m')) (SB_do (XE_1 (pB := pU)  (L_iload_n (x := person_) 1 X dX6_personAskedFrom_0 rfl rfl) (fun v0 st mm a b hd hc hs h => g_callS (st := st) X hT htr (M_X6_needPerson v0) lk_X6_needPerson st_X6_needPerson ml_X6_72 rfl (by rw [hR]; exact ⟨Nat.le_of_ble_eq_true rfl, Nat.le_of_ble_eq_true rfl⟩) (Nat.le_trans hd (by decide)) ⟨hc, hs⟩ dX6_personAskedFrom_1 h))
  (SB_let (XE_2 wR (XE_1 (L_aload_n (r := (some this)) 0 X dX6_personAskedFrom_4 rfl rfl) (O_gr (c := 7) (j := 1) X rfl inW6 (by decide) fl_X6_17 rfl dX6_personAskedFrom_5)) (L_iload_n (x := person_) 1 X dX6_personAskedFrom_8 rfl rfl) (O_ar (c := 3) X (by decide) rfl dX6_personAskedFrom_9)) (S_astore_n (ev := fun asked_5 => [(3, va_rf asked_5), (0, va_rf (some this)), (1, .int person_), (2, .int mark_)]) X dX6_personAskedFrom_10 rfl (by rw [hN]; decide) (fun _ => rfl)) fun asked_5 =>
  (SB_do (XE_3 (pB := pU) wI wI (L_iload_n (x := mark_) 3 X dX6_personAskedFrom_11 rfl rfl) (L_iconst (v := 0) X dX6_personAskedFrom_12 (by decide)) (XE_1 (L_aload_n (r := asked_5) 0 X dX6_personAskedFrom_13 rfl rfl) (O_gi (c := 3) (j := 0) X rfl inW2 (by decide) fl_X6_335 rfl dX6_personAskedFrom_14)) (fun v0 v1 v2 st mm a b hd hc hs h => g_callS (st := st) X hT htr (M_X6_needRange v0 v1 v2) lk_X6_needRange st_X6_needRange ml_X6_47 rfl (by rw [hR]; exact ⟨Nat.le_of_ble_eq_true rfl, Nat.le_of_ble_eq_true rfl⟩) (Nat.le_trans hd (by decide)) ⟨hc, hs⟩ dX6_personAskedFrom_17 h))
  (SB_do (XE_1 (pB := pU)  (XE_b2i (CE_2 wI (L_iload_n (x := mark_) 3 X dX6_personAskedFrom_20 rfl rfl) (XE_1 (L_aload_n (r := asked_5) 0 X dX6_personAskedFrom_21 rfl rfl) (O_gi (c := 3) (j := 1) X rfl inW2 (by decide) fl_X6_357 rfl dX6_personAskedFrom_22)) (C_ge_F X dX6_personAskedFrom_25 (by decide))) (S_b1 X dX6_personAskedFrom_28 dX6_personAskedFrom_29 (by decide)) (S_b0 X dX6_personAskedFrom_32)) (fun v0 st mm a b hd hc hs h => g_callS (st := st) X hT htr (M_X6_needState v0) lk_X6_needState st_X6_needState ml_X6_81 rfl (by rw [hR]; exact ⟨Nat.le_of_ble_eq_true rfl, Nat.le_of_ble_eq_true rfl⟩) (Nat.le_trans hd (by decide)) ⟨hc, hs⟩ dX6_personAskedFrom_33 h))
  (SB_retR X C hr (Or.inl ⟨_, rfl⟩) dX6_personAskedFrom_37 (L_aload_n (r := asked_5) 0 X dX6_personAskedFrom_36 rfl rfl)))))) h (by rw [hR]; decide) (by rw [hR]; decide)
theorem dX6_changes_0 : decode cX6_changes 0 = .ok (.aload_n 0, 1) := by decide +kernel
theorem dX6_changes_1 : decode cX6_changes 1 = .ok (.iload_n 1, 1) := by decide +kernel
theorem dX6_changes_2 : decode cX6_changes 2 = .ok (.iload_n 2, 1) := by decide +kernel
theorem dX6_changes_3 : decode cX6_changes 3 = .ok (.invokevirtual 338, 3) := by decide +kernel
theorem dX6_changes_6 : decode cX6_changes 6 = .ok (.iload_n 2, 1) := by decide +kernel
theorem dX6_changes_7 : decode cX6_changes 7 = .ok (.invokevirtual 342, 3) := by decide +kernel
theorem dX6_changes_10 : decode cX6_changes 10 = .ok (.ireturn, 1) := by decide +kernel
theorem lk_X6_changes : LK yX6_changes cX6_changes 3 (some .int) 2 := ⟨qW_at 1272 (by decide +kernel) rfl, qW_at 75 (by decide +kernel) rfl, by decide, by decide, by decide +kernel⟩
theorem im_X6_changes : Cond.instanceMethod yX6_changes ∈ qW := qW_at 1270 (by decide +kernel) rfl
theorem se_X6_changes : Cond.selects RX6 yX6_changes yX6_changes ∈ qW := qW_at 1271 (by decide +kernel) rfl
def F_X6_changes (this : Nat) (person_ : Int32) (mark_ : Int32) : QX Int32 :=
  (xb (xb (xp (some this)) fun v1 => xb (xp person_) fun v2 => xb (xp mark_) fun v3 => xo 7 v1 fun q => F_X6_personAskedFrom q v2 v3) fun v4 => xb (xp mark_) fun v5 => xo 3 v4 fun q => F_X2_entriesAbove q v5)
set_option maxRecDepth 100000 in
set_option maxHeartbeats 4000000 in
theorem M_X6_changes (this : Nat) (person_ : Int32) (mark_ : Int32) : MM yX6_changes cX6_changes 3 (some .int) 9 146 3 18 encI [.ref this, .int person_, .int mark_] (F_X6_changes this person_ mark_) := by
  refine MM_of (env0 := [(0, va_rf (some this)), (1, .int person_), (2, .int mark_)]) (by decide) (by exact Nat.le_of_ble_eq_true rfl) (by rfl) (fun k mm res X C hR hN hr hname h => ?_)
  have X : CX k cX6_changes RX6 := X
  have hT : TH k (fun e m' => res = (.error e, m')) := TH_of C
  have htr := C.2.2.2.1
  unfold F_X6_changes at h
  exact SB_go (T := fun e m' => res = (.error e, m')) (RET := fun v m' => res = (.ok v, m')) (SB_retI X C hr dX6_changes_10 (XE_2 (pB := pI) wR (XE_3 (pB := pR) wR wI (L_aload_n (r := (some this)) 0 X dX6_changes_0 rfl rfl) (L_iload_n (x := person_) 1 X dX6_changes_1 rfl rfl) (L_iload_n (x := mark_) 2 X dX6_changes_2 rfl rfl) (fun v0 v1 v2 st mm a b hd hc hs h => g_callVo (st := st) (cI := 7) X hT htr rfl (fun q => M_X6_personAskedFrom q v1 v2) lk_X6_personAskedFrom im_X6_personAskedFrom se_X6_personAskedFrom ml_X6_338 rfl (by rw [hR]; exact ⟨Nat.le_of_ble_eq_true rfl, Nat.le_of_ble_eq_true rfl⟩) (Nat.le_trans hd (by decide)) ⟨hc, hs⟩ dX6_changes_3 h)) (L_iload_n (x := mark_) 2 X dX6_changes_6 rfl rfl) (fun v0 v1 st mm a b hd hc hs h => g_callVo (st := st) (cI := 3) X hT htr rfl (fun q => M_X2_entriesAbove q v1) lk_X2_entriesAbove im_X2_entriesAbove se_X2_entriesAbove ml_X6_342 rfl (by rw [hR]; exact ⟨Nat.le_of_ble_eq_true rfl, Nat.le_of_ble_eq_true rfl⟩) (Nat.le_trans hd (by decide)) ⟨hc, hs⟩ dX6_changes_7 h))) h (by rw [hR]; decide) (by rw [hR]; decide)
theorem dX6_changeAt_0 : decode cX6_changeAt 0 = .ok (.aload_n 0, 1) := by decide +kernel
theorem dX6_changeAt_1 : decode cX6_changeAt 1 = .ok (.iload_n 1, 1) := by decide +kernel
theorem dX6_changeAt_2 : decode cX6_changeAt 2 = .ok (.iload_n 2, 1) := by decide +kernel
theorem dX6_changeAt_3 : decode cX6_changeAt 3 = .ok (.invokevirtual 338, 3) := by decide +kernel
theorem dX6_changeAt_6 : decode cX6_changeAt 6 = .ok (.astore 4, 2) := by decide +kernel
theorem dX6_changeAt_8 : decode cX6_changeAt 8 = .ok (.iload_n 3, 1) := by decide +kernel
theorem dX6_changeAt_9 : decode cX6_changeAt 9 = .ok (.aload 4, 2) := by decide +kernel
theorem dX6_changeAt_11 : decode cX6_changeAt 11 = .ok (.iload_n 2, 1) := by decide +kernel
theorem dX6_changeAt_12 : decode cX6_changeAt 12 = .ok (.invokevirtual 342, 3) := by decide +kernel
theorem dX6_changeAt_15 : decode cX6_changeAt 15 = .ok (.invokestatic 261, 3) := by decide +kernel
theorem dX6_changeAt_18 : decode cX6_changeAt 18 = .ok (.iconst (-1), 1) := by decide +kernel
theorem dX6_changeAt_19 : decode cX6_changeAt 19 = .ok (.istore 5, 2) := by decide +kernel
theorem dX6_changeAt_21 : decode cX6_changeAt 21 = .ok (.iconst 0, 1) := by decide +kernel
theorem dX6_changeAt_22 : decode cX6_changeAt 22 = .ok (.istore 6, 2) := by decide +kernel
theorem dX6_changeAt_24 : decode cX6_changeAt 24 = .ok (.iload 6, 2) := by decide +kernel
theorem dX6_changeAt_26 : decode cX6_changeAt 26 = .ok (.bipush 8, 2) := by decide +kernel
theorem dX6_changeAt_28 : decode cX6_changeAt 28 = .ok (.if_icmp .ge 47, 3) := by decide +kernel
theorem dX6_changeAt_31 : decode cX6_changeAt 31 = .ok (.iload 5, 2) := by decide +kernel
theorem dX6_changeAt_33 : decode cX6_changeAt 33 = .ok (.iconst (-1), 1) := by decide +kernel
theorem dX6_changeAt_34 : decode cX6_changeAt 34 = .ok (.if_icmp .ne 41, 3) := by decide +kernel
theorem dX6_changeAt_37 : decode cX6_changeAt 37 = .ok (.aload 4, 2) := by decide +kernel
theorem dX6_changeAt_39 : decode cX6_changeAt 39 = .ok (.getfield 345, 3) := by decide +kernel
theorem dX6_changeAt_42 : decode cX6_changeAt 42 = .ok (.iload 6, 2) := by decide +kernel
theorem dX6_changeAt_44 : decode cX6_changeAt 44 = .ok (.iaload, 1) := by decide +kernel
theorem dX6_changeAt_45 : decode cX6_changeAt 45 = .ok (.istore 7, 2) := by decide +kernel
theorem dX6_changeAt_47 : decode cX6_changeAt 47 = .ok (.iload 7, 2) := by decide +kernel
theorem dX6_changeAt_49 : decode cX6_changeAt 49 = .ok (.iload_n 2, 1) := by decide +kernel
theorem dX6_changeAt_50 : decode cX6_changeAt 50 = .ok (.if_icmp .le 19, 3) := by decide +kernel
theorem dX6_changeAt_53 : decode cX6_changeAt 53 = .ok (.aload 4, 2) := by decide +kernel
theorem dX6_changeAt_55 : decode cX6_changeAt 55 = .ok (.iload_n 2, 1) := by decide +kernel
theorem dX6_changeAt_56 : decode cX6_changeAt 56 = .ok (.iload 7, 2) := by decide +kernel
theorem dX6_changeAt_58 : decode cX6_changeAt 58 = .ok (.invokevirtual 348, 3) := by decide +kernel
theorem dX6_changeAt_61 : decode cX6_changeAt 61 = .ok (.iload_n 3, 1) := by decide +kernel
theorem dX6_changeAt_62 : decode cX6_changeAt 62 = .ok (.if_icmp .ne 7, 3) := by decide +kernel
theorem dX6_changeAt_65 : decode cX6_changeAt 65 = .ok (.iload 6, 2) := by decide +kernel
theorem dX6_changeAt_67 : decode cX6_changeAt 67 = .ok (.istore 5, 2) := by decide +kernel
theorem dX6_changeAt_69 : decode cX6_changeAt 69 = .ok (.iinc 6 1, 3) := by decide +kernel
theorem dX6_changeAt_72 : decode cX6_changeAt 72 = .ok (.goto (-48), 3) := by decide +kernel
theorem dX6_changeAt_75 : decode cX6_changeAt 75 = .ok (.iload 5, 2) := by decide +kernel
theorem dX6_changeAt_77 : decode cX6_changeAt 77 = .ok (.ireturn, 1) := by decide +kernel
theorem lk_X6_changeAt : LK yX6_changeAt cX6_changeAt 8 (some .int) 3 := ⟨qW_at 1291 (by decide +kernel) rfl, qW_at 75 (by decide +kernel) rfl, by decide, by decide, by decide +kernel⟩
theorem im_X6_changeAt : Cond.instanceMethod yX6_changeAt ∈ qW := qW_at 1289 (by decide +kernel) rfl
theorem se_X6_changeAt : Cond.selects RX6 yX6_changeAt yX6_changeAt ∈ qW := qW_at 1290 (by decide +kernel) rfl
def F_X6_changeAt (this : Nat) (person_ : Int32) (mark_ : Int32) (place_ : Int32) : QX Int32 :=
  (xb (xb (xp (some this)) fun v1 => xb (xp person_) fun v2 => xb (xp mark_) fun v3 => xo 7 v1 fun q => F_X6_personAskedFrom q v2 v3) fun asked_4 =>
  (xb (xb (xp place_) fun v7 => xb (xb (xp asked_4) fun v5 => xb (xp mark_) fun v6 => xo 3 v5 fun q => F_X2_entriesAbove q v6) fun v8 => F_X6_needPlace v7 v8) fun _ =>
  (xb (xp (-1 : Int32)) fun found_9 =>
  (xb (xp (0 : Int32)) fun number_10 =>
  (xb (xl 2000 (fun (s11 : Int32 × Int32) => (xb (xb (xp s11.2) fun v12 => xb (xp (8 : Int32)) fun v13 => xp (decide (v12 < v13))) fun v16 => if v16 then (xb (xp s11.1) fun v14 => xb (xp (-1 : Int32)) fun v15 => xp (decide (v14 = v15))) else xp false)) (fun (s11 : Int32 × Int32) =>
  (xb (xb (xb (xp asked_4) fun v17 => xgr 3 2 v17) fun v18 => xb (xp s11.2) fun v19 => xai 0 v18 v19) fun entry_20 =>
  (xb (xb (xb (xb (xp entry_20) fun v21 => xb (xp mark_) fun v22 => xp (decide (v22 < v21))) fun v28 => if v28 then (xb (xb (xp asked_4) fun v23 => xb (xp mark_) fun v24 => xb (xp entry_20) fun v25 => xo 3 v23 fun q => F_X2_entriesBetween q v24 v25) fun v26 => xb (xp place_) fun v27 => xp (decide (v26 = v27))) else xp false) fun v30 => if v30 then (xb (xp s11.2) fun found_29 =>
  (xp found_29)) else (xp s11.1)) fun s31 =>
  (xp (s31, (s11.2 + 1)))))) (found_9, number_10)) fun s32 =>
  (xp s32.1))))))
set_option maxRecDepth 100000 in
set_option maxHeartbeats 4000000 in
theorem M_X6_changeAt (this : Nat) (person_ : Int32) (mark_ : Int32) (place_ : Int32) : MM yX6_changeAt cX6_changeAt 8 (some .int) 9 146 4 24 encI [.ref this, .int person_, .int mark_, .int place_] (F_X6_changeAt this person_ mark_ place_) := by
  refine MM_of (env0 := [(0, va_rf (some this)), (1, .int person_), (2, .int mark_), (3, .int place_)]) (by decide) (by exact Nat.le_of_ble_eq_true rfl) (by rfl) (fun k mm res X C hR hN hr hname h => ?_)
  have X : CX k cX6_changeAt RX6 := X
  have hT : TH k (fun e m' => res = (.error e, m')) := TH_of C
  have htr := C.2.2.2.1
  unfold F_X6_changeAt at h
  exact SB_go (T := fun e m' => res = (.error e, m')) (RET := fun v m' => res = (.ok v, m')) (SB_let (XE_3 (pB := pR) wR wI (L_aload_n (r := (some this)) 0 X dX6_changeAt_0 rfl rfl) (L_iload_n (x := person_) 1 X dX6_changeAt_1 rfl rfl) (L_iload_n (x := mark_) 2 X dX6_changeAt_2 rfl rfl) (fun v0 v1 v2 st mm a b hd hc hs h => g_callVo (st := st) (cI := 7) X hT htr rfl (fun q => M_X6_personAskedFrom q v1 v2) lk_X6_personAskedFrom im_X6_personAskedFrom se_X6_personAskedFrom ml_X6_338 rfl (by rw [hR]; exact ⟨Nat.le_of_ble_eq_true rfl, Nat.le_of_ble_eq_true rfl⟩) (Nat.le_trans hd (by decide)) ⟨hc, hs⟩ dX6_changeAt_3 h)) (S_astore (ev := fun asked_4 => [(4, va_rf asked_4), (0, va_rf (some this)), (1, .int person_), (2, .int mark_), (3, .int place_)]) X dX6_changeAt_6 (by rw [hN]; decide) (fun _ => rfl)) fun asked_4 =>
  (SB_do (XE_2 (pB := pU) wI (L_iload_n (x := place_) 4 X dX6_changeAt_8 rfl rfl) (XE_2 (pB := pI) wR (L_aload (r := asked_4) 0 X dX6_changeAt_9 rfl) (L_iload_n (x := mark_) 3 X dX6_changeAt_11 rfl rfl) (fun v0 v1 st mm a b hd hc hs h => g_callVo (st := st) (cI := 3) X hT htr rfl (fun q => M_X2_entriesAbove q v1) lk_X2_entriesAbove im_X2_entriesAbove se_X2_entriesAbove ml_X6_342 rfl (by rw [hR]; exact ⟨Nat.le_of_ble_eq_true rfl, Nat.le_of_ble_eq_true rfl⟩) (Nat.le_trans hd (by decide)) ⟨hc, hs⟩ dX6_changeAt_12 h)) (fun v0 v1 st mm a b hd hc hs h => g_callS (st := st) X hT htr (M_X6_needPlace v0 v1) lk_X6_needPlace st_X6_needPlace ml_X6_261 rfl (by rw [hR]; exact ⟨Nat.le_of_ble_eq_true rfl, Nat.le_of_ble_eq_true rfl⟩) (Nat.le_trans hd (by decide)) ⟨hc, hs⟩ dX6_changeAt_15 h))
  (SB_let (L_iconst (v := (-1)) X dX6_changeAt_18 (by decide)) (S_istore (ev := fun found_9 => [(5, .int found_9), (4, va_rf asked_4), (0, va_rf (some this)), (1, .int person_), (2, .int mark_), (3, .int place_)]) X dX6_changeAt_19 (by rw [hN]; decide) (fun _ => (by cases asked_4 <;> rfl))) fun found_9 =>
  (SB_let (L_iconst (v := 0) X dX6_changeAt_21 (by decide)) (S_istore (ev := fun number_10 => [(6, .int number_10), (5, .int found_9), (4, va_rf asked_4), (0, va_rf (some this)), (1, .int person_), (2, .int mark_), (3, .int place_)]) X dX6_changeAt_22 (by rw [hN]; decide) (fun _ => rfl)) fun number_10 =>
  (SB_seq (ST_loop (σ := Int32 × Int32) (upd := (fun (s : Int32 × Int32) => [(6, .int s.2), (5, .int s.1), (4, va_rf asked_4), (0, va_rf (some this)), (1, .int person_), (2, .int mark_), (3, .int place_)])) (s0 := (found_9, number_10)) (n := 2000) (fun mm a b h => GG_sub [0, 1, 2, 3, 4, 5, 6] rfl h)
  (fun s11 => (CE_and (CE_2 wI (L_iload (x := s11.2) 0 X dX6_changeAt_24 rfl) (L_bipush (v := (8)) X dX6_changeAt_26 (by decide)) (C_lt_F X dX6_changeAt_28 (by decide))) (CE_2 wI (L_iload (x := s11.1) 1 X dX6_changeAt_31 rfl) (L_iconst (v := (-1)) X dX6_changeAt_33 (by decide)) (C_eq_F X dX6_changeAt_34 (by decide)))))
  (fun s11 => (ST_post (ST_let (XE_2 wR (XE_1 (L_aload (r := asked_4) 2 X dX6_changeAt_37 rfl) (O_gr (c := 3) (j := 2) X rfl inW2 (by decide) fl_X6_345 rfl dX6_changeAt_39)) (L_iload (x := s11.2) 0 X dX6_changeAt_42 rfl) (O_ai X dX6_changeAt_44)) (S_istore (ev := fun entry_20 => [(7, .int entry_20), (6, .int s11.2), (5, .int s11.1), (4, va_rf asked_4), (0, va_rf (some this)), (1, .int person_), (2, .int mark_), (3, .int place_)]) X dX6_changeAt_45 (by rw [hN]; decide) (fun _ => rfl)) fun entry_20 =>
  (ST_seq (ST_if (CE_and (CE_2 wI (L_iload (x := entry_20) 0 X dX6_changeAt_47 rfl) (L_iload_n (x := mark_) 6 X dX6_changeAt_49 rfl rfl) (C_gt_F X dX6_changeAt_50 (by decide))) (CE_2 wI (XE_3 (pB := pI) wR wI (L_aload (r := asked_4) 3 X dX6_changeAt_53 rfl) (L_iload_n (x := mark_) 6 X dX6_changeAt_55 rfl rfl) (L_iload (x := entry_20) 0 X dX6_changeAt_56 rfl) (fun v0 v1 v2 st mm a b hd hc hs h => g_callVo (st := st) (cI := 3) X hT htr rfl (fun q => M_X2_entriesBetween q v1 v2) lk_X2_entriesBetween im_X2_entriesBetween se_X2_entriesBetween ml_X6_348 rfl (by rw [hR]; exact ⟨Nat.le_of_ble_eq_true rfl, Nat.le_of_ble_eq_true rfl⟩) (Nat.le_trans hd (by decide)) ⟨hc, hs⟩ dX6_changeAt_58 h)) (L_iload_n (x := place_) 7 X dX6_changeAt_61 rfl rfl) (C_eq_F X dX6_changeAt_62 (by decide))))
  (ST_let (L_iload (x := s11.2) 1 X dX6_changeAt_65 rfl) (S_istore (ev := fun found_29 => [(5, .int found_29), (7, .int entry_20), (6, .int s11.2), (4, va_rf asked_4), (0, va_rf (some this)), (1, .int person_), (2, .int mark_), (3, .int place_)]) X dX6_changeAt_67 (by rw [hN]; decide) (fun _ => (by cases asked_4 <;> rfl))) fun found_29 =>
  (ST_done (upd := (fun (s : Int32) => [(7, .int entry_20), (6, .int s11.2), (5, .int s), (4, va_rf asked_4), (0, va_rf (some this)), (1, .int person_), (2, .int mark_), (3, .int place_)])) (s := found_29) [1, 2, 0, 3, 4, 5, 6, 7] rfl))
  (ST_done (upd := (fun (s : Int32) => [(7, .int entry_20), (6, .int s11.2), (5, .int s), (4, va_rf asked_4), (0, va_rf (some this)), (1, .int person_), (2, .int mark_), (3, .int place_)])) (s := s11.1) [0, 1, 2, 3, 4, 5, 6, 7] rfl)) fun s31 =>
  (ST_pre (env' := [(6, .int (s11.2 + 1)), (7, .int entry_20), (5, .int s31), (4, va_rf asked_4), (0, va_rf (some this)), (1, .int person_), (2, .int mark_), (3, .int place_)]) (S_iinc 1 X dX6_changeAt_69 rfl rfl (by rw [hN]; decide) rfl)
  (ST_done (upd := (fun (s : Int32 × Int32) => [(6, .int s.2), (5, .int s.1), (4, va_rf asked_4), (0, va_rf (some this)), (1, .int person_), (2, .int mark_), (3, .int place_)])) (s := (s31, (s11.2 + 1))) [0, 2, 3, 4, 5, 6, 7] rfl)))) fun _ mm a b h => S_goto X dX6_changeAt_72 (by decide) [] mm a b h))) fun s32 =>
  (SB_retI X C hr dX6_changeAt_77 (L_iload (x := s32.1) 1 X dX6_changeAt_75 rfl))))))) h (by rw [hR]; decide) (by rw [hR]; decide)
theorem dX7_init_0 : decode cX7_init 0 = .ok (.aload_n 0, 1) := by decide +kernel
theorem dX7_init_1 : decode cX7_init 1 = .ok (.invokespecial 1, 3) := by decide +kernel
theorem dX7_init_4 : decode cX7_init 4 = .ok (.aload_n 0, 1) := by decide +kernel
theorem dX7_init_5 : decode cX7_init 5 = .ok (.iconst 3, 1) := by decide +kernel
theorem dX7_init_6 : decode cX7_init 6 = .ok (.newarray .int, 2) := by decide +kernel
theorem dX7_init_8 : decode cX7_init 8 = .ok (.putfield 7, 3) := by decide +kernel
theorem dX7_init_11 : decode cX7_init 11 = .ok (.aload_n 0, 1) := by decide +kernel
theorem dX7_init_12 : decode cX7_init 12 = .ok (.iconst 3, 1) := by decide +kernel
theorem dX7_init_13 : decode cX7_init 13 = .ok (.newarray .int, 2) := by decide +kernel
theorem dX7_init_15 : decode cX7_init 15 = .ok (.putfield 13, 3) := by decide +kernel
theorem dX7_init_18 : decode cX7_init 18 = .ok (.aload_n 0, 1) := by decide +kernel
theorem dX7_init_19 : decode cX7_init 19 = .ok (.iconst 3, 1) := by decide +kernel
theorem dX7_init_20 : decode cX7_init 20 = .ok (.newarray .int, 2) := by decide +kernel
theorem dX7_init_22 : decode cX7_init 22 = .ok (.putfield 16, 3) := by decide +kernel
theorem dX7_init_25 : decode cX7_init 25 = .ok (.aload_n 0, 1) := by decide +kernel
theorem dX7_init_26 : decode cX7_init 26 = .ok (.bipush 8, 2) := by decide +kernel
theorem dX7_init_28 : decode cX7_init 28 = .ok (.newarray .int, 2) := by decide +kernel
theorem dX7_init_30 : decode cX7_init 30 = .ok (.putfield 19, 3) := by decide +kernel
theorem dX7_init_33 : decode cX7_init 33 = .ok (.aload_n 0, 1) := by decide +kernel
theorem dX7_init_34 : decode cX7_init 34 = .ok (.bipush 8, 2) := by decide +kernel
theorem dX7_init_36 : decode cX7_init 36 = .ok (.newarray .int, 2) := by decide +kernel
theorem dX7_init_38 : decode cX7_init 38 = .ok (.putfield 22, 3) := by decide +kernel
theorem dX7_init_41 : decode cX7_init 41 = .ok (.aload_n 0, 1) := by decide +kernel
theorem dX7_init_42 : decode cX7_init 42 = .ok (.bipush 8, 2) := by decide +kernel
theorem dX7_init_44 : decode cX7_init 44 = .ok (.newarray .int, 2) := by decide +kernel
theorem dX7_init_46 : decode cX7_init 46 = .ok (.putfield 25, 3) := by decide +kernel
theorem dX7_init_49 : decode cX7_init 49 = .ok (.aload_n 0, 1) := by decide +kernel
theorem dX7_init_50 : decode cX7_init 50 = .ok (.sipush 160, 3) := by decide +kernel
theorem dX7_init_53 : decode cX7_init 53 = .ok (.newarray .boolean, 2) := by decide +kernel
theorem dX7_init_55 : decode cX7_init 55 = .ok (.putfield 28, 3) := by decide +kernel
theorem dX7_init_58 : decode cX7_init 58 = .ok (.aload_n 0, 1) := by decide +kernel
theorem dX7_init_59 : decode cX7_init 59 = .ok (.sipush 160, 3) := by decide +kernel
theorem dX7_init_62 : decode cX7_init 62 = .ok (.newarray .int, 2) := by decide +kernel
theorem dX7_init_64 : decode cX7_init 64 = .ok (.putfield 32, 3) := by decide +kernel
theorem dX7_init_67 : decode cX7_init 67 = .ok (.aload_n 0, 1) := by decide +kernel
theorem dX7_init_68 : decode cX7_init 68 = .ok (.sipush 160, 3) := by decide +kernel
theorem dX7_init_71 : decode cX7_init 71 = .ok (.newarray .int, 2) := by decide +kernel
theorem dX7_init_73 : decode cX7_init 73 = .ok (.putfield 35, 3) := by decide +kernel
theorem dX7_init_76 : decode cX7_init 76 = .ok (.aload_n 0, 1) := by decide +kernel
theorem dX7_init_77 : decode cX7_init 77 = .ok (.sipush 160, 3) := by decide +kernel
theorem dX7_init_80 : decode cX7_init 80 = .ok (.newarray .int, 2) := by decide +kernel
theorem dX7_init_82 : decode cX7_init 82 = .ok (.putfield 38, 3) := by decide +kernel
theorem dX7_init_85 : decode cX7_init 85 = .ok (.aload_n 0, 1) := by decide +kernel
theorem dX7_init_86 : decode cX7_init 86 = .ok (.sipush 160, 3) := by decide +kernel
theorem dX7_init_89 : decode cX7_init 89 = .ok (.newarray .int, 2) := by decide +kernel
theorem dX7_init_91 : decode cX7_init 91 = .ok (.putfield 41, 3) := by decide +kernel
theorem dX7_init_94 : decode cX7_init 94 = .ok (.aload_n 0, 1) := by decide +kernel
theorem dX7_init_95 : decode cX7_init 95 = .ok (.sipush 160, 3) := by decide +kernel
theorem dX7_init_98 : decode cX7_init 98 = .ok (.newarray .int, 2) := by decide +kernel
theorem dX7_init_100 : decode cX7_init 100 = .ok (.putfield 44, 3) := by decide +kernel
theorem dX7_init_103 : decode cX7_init 103 = .ok (.aload_n 0, 1) := by decide +kernel
theorem dX7_init_104 : decode cX7_init 104 = .ok (.sipush 160, 3) := by decide +kernel
theorem dX7_init_107 : decode cX7_init 107 = .ok (.newarray .int, 2) := by decide +kernel
theorem dX7_init_109 : decode cX7_init 109 = .ok (.putfield 47, 3) := by decide +kernel
theorem dX7_init_112 : decode cX7_init 112 = .ok (.aload_n 0, 1) := by decide +kernel
theorem dX7_init_113 : decode cX7_init 113 = .ok (.sipush 160, 3) := by decide +kernel
theorem dX7_init_116 : decode cX7_init 116 = .ok (.newarray .int, 2) := by decide +kernel
theorem dX7_init_118 : decode cX7_init 118 = .ok (.putfield 50, 3) := by decide +kernel
theorem dX7_init_121 : decode cX7_init 121 = .ok (.aload_n 0, 1) := by decide +kernel
theorem dX7_init_122 : decode cX7_init 122 = .ok (.sipush 160, 3) := by decide +kernel
theorem dX7_init_125 : decode cX7_init 125 = .ok (.newarray .int, 2) := by decide +kernel
theorem dX7_init_127 : decode cX7_init 127 = .ok (.putfield 53, 3) := by decide +kernel
theorem dX7_init_130 : decode cX7_init 130 = .ok (.aload_n 0, 1) := by decide +kernel
theorem dX7_init_131 : decode cX7_init 131 = .ok (.sipush 160, 3) := by decide +kernel
theorem dX7_init_134 : decode cX7_init 134 = .ok (.newarray .int, 2) := by decide +kernel
theorem dX7_init_136 : decode cX7_init 136 = .ok (.putfield 56, 3) := by decide +kernel
theorem dX7_init_139 : decode cX7_init 139 = .ok (.aload_n 0, 1) := by decide +kernel
theorem dX7_init_140 : decode cX7_init 140 = .ok (.sipush 160, 3) := by decide +kernel
theorem dX7_init_143 : decode cX7_init 143 = .ok (.newarray .int, 2) := by decide +kernel
theorem dX7_init_145 : decode cX7_init 145 = .ok (.putfield 59, 3) := by decide +kernel
theorem dX7_init_148 : decode cX7_init 148 = .ok (.aload_n 0, 1) := by decide +kernel
theorem dX7_init_149 : decode cX7_init 149 = .ok (.sipush 160, 3) := by decide +kernel
theorem dX7_init_152 : decode cX7_init 152 = .ok (.newarray .boolean, 2) := by decide +kernel
theorem dX7_init_154 : decode cX7_init 154 = .ok (.putfield 62, 3) := by decide +kernel
theorem dX7_init_157 : decode cX7_init 157 = .ok (.aload_n 0, 1) := by decide +kernel
theorem dX7_init_158 : decode cX7_init 158 = .ok (.sipush 160, 3) := by decide +kernel
theorem dX7_init_161 : decode cX7_init 161 = .ok (.newarray .long, 2) := by decide +kernel
theorem dX7_init_163 : decode cX7_init 163 = .ok (.putfield 65, 3) := by decide +kernel
theorem dX7_init_166 : decode cX7_init 166 = .ok (.aload_n 0, 1) := by decide +kernel
theorem dX7_init_167 : decode cX7_init 167 = .ok (.sipush 160, 3) := by decide +kernel
theorem dX7_init_170 : decode cX7_init 170 = .ok (.newarray .long, 2) := by decide +kernel
theorem dX7_init_172 : decode cX7_init 172 = .ok (.putfield 69, 3) := by decide +kernel
theorem dX7_init_175 : decode cX7_init 175 = .ok (.aload_n 0, 1) := by decide +kernel
theorem dX7_init_176 : decode cX7_init 176 = .ok (.sipush 160, 3) := by decide +kernel
theorem dX7_init_179 : decode cX7_init 179 = .ok (.newarray .long, 2) := by decide +kernel
theorem dX7_init_181 : decode cX7_init 181 = .ok (.putfield 72, 3) := by decide +kernel
theorem dX7_init_184 : decode cX7_init 184 = .ok (.aload_n 0, 1) := by decide +kernel
theorem dX7_init_185 : decode cX7_init 185 = .ok (.sipush 160, 3) := by decide +kernel
theorem dX7_init_188 : decode cX7_init 188 = .ok (.newarray .long, 2) := by decide +kernel
theorem dX7_init_190 : decode cX7_init 190 = .ok (.putfield 75, 3) := by decide +kernel
theorem dX7_init_193 : decode cX7_init 193 = .ok (.aload_n 0, 1) := by decide +kernel
theorem dX7_init_194 : decode cX7_init 194 = .ok (.sipush 9600, 3) := by decide +kernel
theorem dX7_init_197 : decode cX7_init 197 = .ok (.newarray .int, 2) := by decide +kernel
theorem dX7_init_199 : decode cX7_init 199 = .ok (.putfield 78, 3) := by decide +kernel
theorem dX7_init_202 : decode cX7_init 202 = .ok (.aload_n 0, 1) := by decide +kernel
theorem dX7_init_203 : decode cX7_init 203 = .ok (.bipush 40, 2) := by decide +kernel
theorem dX7_init_205 : decode cX7_init 205 = .ok (.newarray .int, 2) := by decide +kernel
theorem dX7_init_207 : decode cX7_init 207 = .ok (.putfield 81, 3) := by decide +kernel
theorem dX7_init_210 : decode cX7_init 210 = .ok (.aload_n 0, 1) := by decide +kernel
theorem dX7_init_211 : decode cX7_init 211 = .ok (.bipush 40, 2) := by decide +kernel
theorem dX7_init_213 : decode cX7_init 213 = .ok (.newarray .int, 2) := by decide +kernel
theorem dX7_init_215 : decode cX7_init 215 = .ok (.putfield 84, 3) := by decide +kernel
theorem dX7_init_218 : decode cX7_init 218 = .ok (.aload_n 0, 1) := by decide +kernel
theorem dX7_init_219 : decode cX7_init 219 = .ok (.iconst 5, 1) := by decide +kernel
theorem dX7_init_220 : decode cX7_init 220 = .ok (.newarray .int, 2) := by decide +kernel
theorem dX7_init_222 : decode cX7_init 222 = .ok (.putfield 87, 3) := by decide +kernel
theorem dX7_init_225 : decode cX7_init 225 = .ok (.aload_n 0, 1) := by decide +kernel
theorem dX7_init_226 : decode cX7_init 226 = .ok (.iconst 5, 1) := by decide +kernel
theorem dX7_init_227 : decode cX7_init 227 = .ok (.newarray .int, 2) := by decide +kernel
theorem dX7_init_229 : decode cX7_init 229 = .ok (.putfield 90, 3) := by decide +kernel
theorem dX7_init_232 : decode cX7_init 232 = .ok (.aload_n 0, 1) := by decide +kernel
theorem dX7_init_233 : decode cX7_init 233 = .ok (.sipush 150, 3) := by decide +kernel
theorem dX7_init_236 : decode cX7_init 236 = .ok (.newarray .int, 2) := by decide +kernel
theorem dX7_init_238 : decode cX7_init 238 = .ok (.putfield 93, 3) := by decide +kernel
theorem dX7_init_241 : decode cX7_init 241 = .ok (.aload_n 0, 1) := by decide +kernel
theorem dX7_init_242 : decode cX7_init 242 = .ok (.sipush 150, 3) := by decide +kernel
theorem dX7_init_245 : decode cX7_init 245 = .ok (.newarray .int, 2) := by decide +kernel
theorem dX7_init_247 : decode cX7_init 247 = .ok (.putfield 96, 3) := by decide +kernel
theorem dX7_init_250 : decode cX7_init 250 = .ok (.aload_n 0, 1) := by decide +kernel
theorem dX7_init_251 : decode cX7_init 251 = .ok (.sipush 150, 3) := by decide +kernel
theorem dX7_init_254 : decode cX7_init 254 = .ok (.newarray .int, 2) := by decide +kernel
theorem dX7_init_256 : decode cX7_init 256 = .ok (.putfield 99, 3) := by decide +kernel
theorem dX7_init_259 : decode cX7_init 259 = .ok (.aload_n 0, 1) := by decide +kernel
theorem dX7_init_260 : decode cX7_init 260 = .ok (.sipush 150, 3) := by decide +kernel
theorem dX7_init_263 : decode cX7_init 263 = .ok (.newarray .int, 2) := by decide +kernel
theorem dX7_init_265 : decode cX7_init 265 = .ok (.putfield 102, 3) := by decide +kernel
theorem dX7_init_268 : decode cX7_init 268 = .ok (.aload_n 0, 1) := by decide +kernel
theorem dX7_init_269 : decode cX7_init 269 = .ok (.sipush 150, 3) := by decide +kernel
theorem dX7_init_272 : decode cX7_init 272 = .ok (.newarray .int, 2) := by decide +kernel
theorem dX7_init_274 : decode cX7_init 274 = .ok (.putfield 105, 3) := by decide +kernel
theorem dX7_init_277 : decode cX7_init 277 = .ok (.aload_n 0, 1) := by decide +kernel
theorem dX7_init_278 : decode cX7_init 278 = .ok (.sipush 150, 3) := by decide +kernel
theorem dX7_init_281 : decode cX7_init 281 = .ok (.newarray .int, 2) := by decide +kernel
theorem dX7_init_283 : decode cX7_init 283 = .ok (.putfield 108, 3) := by decide +kernel
theorem dX7_init_286 : decode cX7_init 286 = .ok (.aload_n 0, 1) := by decide +kernel
theorem dX7_init_287 : decode cX7_init 287 = .ok (.sipush 150, 3) := by decide +kernel
theorem dX7_init_290 : decode cX7_init 290 = .ok (.newarray .int, 2) := by decide +kernel
theorem dX7_init_292 : decode cX7_init 292 = .ok (.putfield 111, 3) := by decide +kernel
theorem dX7_init_295 : decode cX7_init 295 = .ok (.aload_n 0, 1) := by decide +kernel
theorem dX7_init_296 : decode cX7_init 296 = .ok (.sipush 150, 3) := by decide +kernel
theorem dX7_init_299 : decode cX7_init 299 = .ok (.newarray .int, 2) := by decide +kernel
theorem dX7_init_301 : decode cX7_init 301 = .ok (.putfield 114, 3) := by decide +kernel
theorem dX7_init_304 : decode cX7_init 304 = .ok (.aload_n 0, 1) := by decide +kernel
theorem dX7_init_305 : decode cX7_init 305 = .ok (.sipush 150, 3) := by decide +kernel
theorem dX7_init_308 : decode cX7_init 308 = .ok (.newarray .int, 2) := by decide +kernel
theorem dX7_init_310 : decode cX7_init 310 = .ok (.putfield 117, 3) := by decide +kernel
theorem dX7_init_313 : decode cX7_init 313 = .ok (.aload_n 0, 1) := by decide +kernel
theorem dX7_init_314 : decode cX7_init 314 = .ok (.sipush 150, 3) := by decide +kernel
theorem dX7_init_317 : decode cX7_init 317 = .ok (.newarray .int, 2) := by decide +kernel
theorem dX7_init_319 : decode cX7_init 319 = .ok (.putfield 120, 3) := by decide +kernel
theorem dX7_init_322 : decode cX7_init 322 = .ok (.aload_n 0, 1) := by decide +kernel
theorem dX7_init_323 : decode cX7_init 323 = .ok (.sipush 150, 3) := by decide +kernel
theorem dX7_init_326 : decode cX7_init 326 = .ok (.newarray .int, 2) := by decide +kernel
theorem dX7_init_328 : decode cX7_init 328 = .ok (.putfield 123, 3) := by decide +kernel
theorem dX7_init_331 : decode cX7_init 331 = .ok (.aload_n 0, 1) := by decide +kernel
theorem dX7_init_332 : decode cX7_init 332 = .ok (.sipush 150, 3) := by decide +kernel
theorem dX7_init_335 : decode cX7_init 335 = .ok (.newarray .boolean, 2) := by decide +kernel
theorem dX7_init_337 : decode cX7_init 337 = .ok (.putfield 126, 3) := by decide +kernel
theorem dX7_init_340 : decode cX7_init 340 = .ok (.aload_n 0, 1) := by decide +kernel
theorem dX7_init_341 : decode cX7_init 341 = .ok (.sipush 150, 3) := by decide +kernel
theorem dX7_init_344 : decode cX7_init 344 = .ok (.newarray .boolean, 2) := by decide +kernel
theorem dX7_init_346 : decode cX7_init 346 = .ok (.putfield 129, 3) := by decide +kernel
theorem dX7_init_349 : decode cX7_init 349 = .ok (.aload_n 0, 1) := by decide +kernel
theorem dX7_init_350 : decode cX7_init 350 = .ok (.sipush 1650, 3) := by decide +kernel
theorem dX7_init_353 : decode cX7_init 353 = .ok (.newarray .boolean, 2) := by decide +kernel
theorem dX7_init_355 : decode cX7_init 355 = .ok (.putfield 132, 3) := by decide +kernel
theorem dX7_init_358 : decode cX7_init 358 = .ok (.iconst 0, 1) := by decide +kernel
theorem dX7_init_359 : decode cX7_init 359 = .ok (.istore_n 1, 1) := by decide +kernel
theorem dX7_init_360 : decode cX7_init 360 = .ok (.iload_n 1, 1) := by decide +kernel
theorem dX7_init_361 : decode cX7_init 361 = .ok (.iconst 3, 1) := by decide +kernel
theorem dX7_init_362 : decode cX7_init 362 = .ok (.if_icmp .ge 16, 3) := by decide +kernel
theorem dX7_init_365 : decode cX7_init 365 = .ok (.aload_n 0, 1) := by decide +kernel
theorem dX7_init_366 : decode cX7_init 366 = .ok (.getfield 13, 3) := by decide +kernel
theorem dX7_init_369 : decode cX7_init 369 = .ok (.iload_n 1, 1) := by decide +kernel
theorem dX7_init_370 : decode cX7_init 370 = .ok (.iconst (-1), 1) := by decide +kernel
theorem dX7_init_371 : decode cX7_init 371 = .ok (.iastore, 1) := by decide +kernel
theorem dX7_init_372 : decode cX7_init 372 = .ok (.iinc 1 1, 3) := by decide +kernel
theorem dX7_init_375 : decode cX7_init 375 = .ok (.goto (-15), 3) := by decide +kernel
theorem dX7_init_378 : decode cX7_init 378 = .ok (.iconst 0, 1) := by decide +kernel
theorem dX7_init_379 : decode cX7_init 379 = .ok (.istore_n 1, 1) := by decide +kernel
theorem dX7_init_380 : decode cX7_init 380 = .ok (.iload_n 1, 1) := by decide +kernel
theorem dX7_init_381 : decode cX7_init 381 = .ok (.bipush 40, 2) := by decide +kernel
theorem dX7_init_383 : decode cX7_init 383 = .ok (.if_icmp .ge 16, 3) := by decide +kernel
theorem dX7_init_386 : decode cX7_init 386 = .ok (.aload_n 0, 1) := by decide +kernel
theorem dX7_init_387 : decode cX7_init 387 = .ok (.getfield 81, 3) := by decide +kernel
theorem dX7_init_390 : decode cX7_init 390 = .ok (.iload_n 1, 1) := by decide +kernel
theorem dX7_init_391 : decode cX7_init 391 = .ok (.iconst (-1), 1) := by decide +kernel
theorem dX7_init_392 : decode cX7_init 392 = .ok (.iastore, 1) := by decide +kernel
theorem dX7_init_393 : decode cX7_init 393 = .ok (.iinc 1 1, 3) := by decide +kernel
theorem dX7_init_396 : decode cX7_init 396 = .ok (.goto (-16), 3) := by decide +kernel
theorem dX7_init_399 : decode cX7_init 399 = .ok (.return_, 1) := by decide +kernel
theorem lk_X7_init : LK yX7_init cX7_init 2 none 0 := ⟨qW_at 1297 (by decide +kernel) rfl, qW_at 78 (by decide +kernel) rfl, by decide, by decide, by decide +kernel⟩
theorem im_X7_init : Cond.instanceMethod yX7_init ∈ qW := qW_at 1296 (by decide +kernel) rfl
def F_X7_init (this : Nat) : QX Unit :=
  (xb (xb (xp (some this)) fun v2 => xb (xb (xp (3 : Int32)) fun v1 => xnewi 0 v1 3) fun v3 => xsr 8 0 v2 v3) fun _ =>
  (xb (xb (xp (some this)) fun v5 => xb (xb (xp (3 : Int32)) fun v4 => xnewi 0 v4 3) fun v6 => xsr 8 1 v5 v6) fun _ =>
  (xb (xb (xp (some this)) fun v8 => xb (xb (xp (3 : Int32)) fun v7 => xnewi 0 v7 3) fun v9 => xsr 8 2 v8 v9) fun _ =>
  (xb (xb (xp (some this)) fun v11 => xb (xb (xp (8 : Int32)) fun v10 => xnewi 0 v10 8) fun v12 => xsr 8 4 v11 v12) fun _ =>
  (xb (xb (xp (some this)) fun v14 => xb (xb (xp (8 : Int32)) fun v13 => xnewi 0 v13 8) fun v15 => xsr 8 5 v14 v15) fun _ =>
  (xb (xb (xp (some this)) fun v17 => xb (xb (xp (8 : Int32)) fun v16 => xnewi 0 v16 8) fun v18 => xsr 8 6 v17 v18) fun _ =>
  (xb (xb (xp (some this)) fun v20 => xb (xb (xp (160 : Int32)) fun v19 => xnewi 1 v19 160) fun v21 => xsr 8 8 v20 v21) fun _ =>
  (xb (xb (xp (some this)) fun v23 => xb (xb (xp (160 : Int32)) fun v22 => xnewi 0 v22 160) fun v24 => xsr 8 9 v23 v24) fun _ =>
  (xb (xb (xp (some this)) fun v26 => xb (xb (xp (160 : Int32)) fun v25 => xnewi 0 v25 160) fun v27 => xsr 8 10 v26 v27) fun _ =>
  (xb (xb (xp (some this)) fun v29 => xb (xb (xp (160 : Int32)) fun v28 => xnewi 0 v28 160) fun v30 => xsr 8 11 v29 v30) fun _ =>
  (xb (xb (xp (some this)) fun v32 => xb (xb (xp (160 : Int32)) fun v31 => xnewi 0 v31 160) fun v33 => xsr 8 12 v32 v33) fun _ =>
  (xb (xb (xp (some this)) fun v35 => xb (xb (xp (160 : Int32)) fun v34 => xnewi 0 v34 160) fun v36 => xsr 8 13 v35 v36) fun _ =>
  (xb (xb (xp (some this)) fun v38 => xb (xb (xp (160 : Int32)) fun v37 => xnewi 0 v37 160) fun v39 => xsr 8 14 v38 v39) fun _ =>
  (xb (xb (xp (some this)) fun v41 => xb (xb (xp (160 : Int32)) fun v40 => xnewi 0 v40 160) fun v42 => xsr 8 15 v41 v42) fun _ =>
  (xb (xb (xp (some this)) fun v44 => xb (xb (xp (160 : Int32)) fun v43 => xnewi 0 v43 160) fun v45 => xsr 8 16 v44 v45) fun _ =>
  (xb (xb (xp (some this)) fun v47 => xb (xb (xp (160 : Int32)) fun v46 => xnewi 0 v46 160) fun v48 => xsr 8 17 v47 v48) fun _ =>
  (xb (xb (xp (some this)) fun v50 => xb (xb (xp (160 : Int32)) fun v49 => xnewi 0 v49 160) fun v51 => xsr 8 18 v50 v51) fun _ =>
  (xb (xb (xp (some this)) fun v53 => xb (xb (xp (160 : Int32)) fun v52 => xnewi 1 v52 160) fun v54 => xsr 8 19 v53 v54) fun _ =>
  (xb (xb (xp (some this)) fun v56 => xb (xb (xp (160 : Int32)) fun v55 => xnewl v55 160) fun v57 => xsr 8 20 v56 v57) fun _ =>
  (xb (xb (xp (some this)) fun v59 => xb (xb (xp (160 : Int32)) fun v58 => xnewl v58 160) fun v60 => xsr 8 21 v59 v60) fun _ =>
  (xb (xb (xp (some this)) fun v62 => xb (xb (xp (160 : Int32)) fun v61 => xnewl v61 160) fun v63 => xsr 8 22 v62 v63) fun _ =>
  (xb (xb (xp (some this)) fun v65 => xb (xb (xp (160 : Int32)) fun v64 => xnewl v64 160) fun v66 => xsr 8 23 v65 v66) fun _ =>
  (xb (xb (xp (some this)) fun v68 => xb (xb (xp (9600 : Int32)) fun v67 => xnewi 0 v67 9600) fun v69 => xsr 8 24 v68 v69) fun _ =>
  (xb (xb (xp (some this)) fun v71 => xb (xb (xp (40 : Int32)) fun v70 => xnewi 0 v70 40) fun v72 => xsr 8 25 v71 v72) fun _ =>
  (xb (xb (xp (some this)) fun v74 => xb (xb (xp (40 : Int32)) fun v73 => xnewi 0 v73 40) fun v75 => xsr 8 26 v74 v75) fun _ =>
  (xb (xb (xp (some this)) fun v77 => xb (xb (xp (5 : Int32)) fun v76 => xnewi 0 v76 5) fun v78 => xsr 8 27 v77 v78) fun _ =>
  (xb (xb (xp (some this)) fun v80 => xb (xb (xp (5 : Int32)) fun v79 => xnewi 0 v79 5) fun v81 => xsr 8 28 v80 v81) fun _ =>
  (xb (xb (xp (some this)) fun v83 => xb (xb (xp (150 : Int32)) fun v82 => xnewi 0 v82 150) fun v84 => xsr 8 31 v83 v84) fun _ =>
  (xb (xb (xp (some this)) fun v86 => xb (xb (xp (150 : Int32)) fun v85 => xnewi 0 v85 150) fun v87 => xsr 8 32 v86 v87) fun _ =>
  (xb (xb (xp (some this)) fun v89 => xb (xb (xp (150 : Int32)) fun v88 => xnewi 0 v88 150) fun v90 => xsr 8 33 v89 v90) fun _ =>
  (xb (xb (xp (some this)) fun v92 => xb (xb (xp (150 : Int32)) fun v91 => xnewi 0 v91 150) fun v93 => xsr 8 34 v92 v93) fun _ =>
  (xb (xb (xp (some this)) fun v95 => xb (xb (xp (150 : Int32)) fun v94 => xnewi 0 v94 150) fun v96 => xsr 8 35 v95 v96) fun _ =>
  (xb (xb (xp (some this)) fun v98 => xb (xb (xp (150 : Int32)) fun v97 => xnewi 0 v97 150) fun v99 => xsr 8 36 v98 v99) fun _ =>
  (xb (xb (xp (some this)) fun v101 => xb (xb (xp (150 : Int32)) fun v100 => xnewi 0 v100 150) fun v102 => xsr 8 37 v101 v102) fun _ =>
  (xb (xb (xp (some this)) fun v104 => xb (xb (xp (150 : Int32)) fun v103 => xnewi 0 v103 150) fun v105 => xsr 8 38 v104 v105) fun _ =>
  (xb (xb (xp (some this)) fun v107 => xb (xb (xp (150 : Int32)) fun v106 => xnewi 0 v106 150) fun v108 => xsr 8 39 v107 v108) fun _ =>
  (xb (xb (xp (some this)) fun v110 => xb (xb (xp (150 : Int32)) fun v109 => xnewi 0 v109 150) fun v111 => xsr 8 40 v110 v111) fun _ =>
  (xb (xb (xp (some this)) fun v113 => xb (xb (xp (150 : Int32)) fun v112 => xnewi 0 v112 150) fun v114 => xsr 8 41 v113 v114) fun _ =>
  (xb (xb (xp (some this)) fun v116 => xb (xb (xp (150 : Int32)) fun v115 => xnewi 1 v115 150) fun v117 => xsr 8 42 v116 v117) fun _ =>
  (xb (xb (xp (some this)) fun v119 => xb (xb (xp (150 : Int32)) fun v118 => xnewi 1 v118 150) fun v120 => xsr 8 43 v119 v120) fun _ =>
  (xb (xb (xp (some this)) fun v122 => xb (xb (xp (1650 : Int32)) fun v121 => xnewi 1 v121 1650) fun v123 => xsr 8 44 v122 v123) fun _ =>
  (xb (xp (0 : Int32)) fun k_124 =>
  (xb (xl 2000 (fun (s125 : Int32) => (xb (xp s125) fun v126 => xb (xp (3 : Int32)) fun v127 => xp (decide (v126 < v127)))) (fun (s125 : Int32) =>
  (xb (xb (xb (xp (some this)) fun v128 => xgr 8 1 v128) fun v129 => xb (xp s125) fun v130 => xb (xp (-1 : Int32)) fun v131 => xsai v129 v130 v131) fun _ =>
  (xp (s125 + 1)))) k_124) fun s132 =>
  (xb (xp (0 : Int32)) fun k_133 =>
  (xb (xl 2000 (fun (s134 : Int32) => (xb (xp s134) fun v135 => xb (xp (40 : Int32)) fun v136 => xp (decide (v135 < v136)))) (fun (s134 : Int32) =>
  (xb (xb (xb (xp (some this)) fun v137 => xgr 8 25 v137) fun v138 => xb (xp s134) fun v139 => xb (xp (-1 : Int32)) fun v140 => xsai v138 v139 v140) fun _ =>
  (xp (s134 + 1)))) k_133) fun s141 =>
  (xp ()))))))))))))))))))))))))))))))))))))))))))))))
set_option maxRecDepth 100000 in
set_option maxHeartbeats 4000000 in
theorem M_X7_init (this : Nat) : MM yX7_init cX7_init 2 none 1 12 41 15883 encU [.ref this] (F_X7_init this) := by
  refine MM_of (env0 := [(0, va_rf (some this))]) (by decide) (by exact Nat.le_of_ble_eq_true rfl) (by rfl) (fun k mm res X C hR hN hr hname h => ?_)
  have X : CX k cX7_init RX7 := X
  have hT : TH k (fun e m' => res = (.error e, m')) := TH_of C
  have htr := C.2.2.2.1
  unfold F_X7_init at h
  exact SB_go (T := fun e m' => res = (.error e, m')) (RET := fun v m' => res = (.ok v, m')) (SB_pre (env' := [(0, va_rf (some this))]) (S_super (j := 0) X dX7_init_0 rfl dX7_init_1 rfl ml_X7_1 oi_in oi_co (by rw [hR]; exact Nat.le_of_ble_eq_true rfl) (by rw [hR]; exact Nat.le_of_ble_eq_true rfl))
  (SB_do (XE_2 wR (L_aload_n (r := (some this)) 0 X dX7_init_4 rfl rfl) (XE_1 (L_iconst (v := 3) X dX7_init_5 (by decide)) (O_newi0 (cap := 3) X ac_int (by decide) dX7_init_6)) (O_sr (c := 8) (j := 0) tyX7 X rfl inW7 tyX7_ok nmX7 (by decide) fl_X7_7 (Or.inr ⟨hname, rfl, rfl⟩) rfl (by decide +kernel : parseFieldDescriptor (TX7 0).2.2.1 = some (.array .int)) (Or.inr ⟨_, rfl⟩) dX7_init_8))
  (SB_do (XE_2 wR (L_aload_n (r := (some this)) 0 X dX7_init_11 rfl rfl) (XE_1 (L_iconst (v := 3) X dX7_init_12 (by decide)) (O_newi0 (cap := 3) X ac_int (by decide) dX7_init_13)) (O_sr (c := 8) (j := 1) tyX7 X rfl inW7 tyX7_ok nmX7 (by decide) fl_X7_13 (Or.inr ⟨hname, rfl, rfl⟩) rfl (by decide +kernel : parseFieldDescriptor (TX7 1).2.2.1 = some (.array .int)) (Or.inr ⟨_, rfl⟩) dX7_init_15))
  (SB_do (XE_2 wR (L_aload_n (r := (some this)) 0 X dX7_init_18 rfl rfl) (XE_1 (L_iconst (v := 3) X dX7_init_19 (by decide)) (O_newi0 (cap := 3) X ac_int (by decide) dX7_init_20)) (O_sr (c := 8) (j := 2) tyX7 X rfl inW7 tyX7_ok nmX7 (by decide) fl_X7_16 (Or.inr ⟨hname, rfl, rfl⟩) rfl (by decide +kernel : parseFieldDescriptor (TX7 2).2.2.1 = some (.array .int)) (Or.inr ⟨_, rfl⟩) dX7_init_22))
  (SB_do (XE_2 wR (L_aload_n (r := (some this)) 0 X dX7_init_25 rfl rfl) (XE_1 (L_bipush (v := (8)) X dX7_init_26 (by decide)) (O_newi0 (cap := 8) X ac_int (by decide) dX7_init_28)) (O_sr (c := 8) (j := 4) tyX7 X rfl inW7 tyX7_ok nmX7 (by decide) fl_X7_19 (Or.inr ⟨hname, rfl, rfl⟩) rfl (by decide +kernel : parseFieldDescriptor (TX7 4).2.2.1 = some (.array .int)) (Or.inr ⟨_, rfl⟩) dX7_init_30))
  (SB_do (XE_2 wR (L_aload_n (r := (some this)) 0 X dX7_init_33 rfl rfl) (XE_1 (L_bipush (v := (8)) X dX7_init_34 (by decide)) (O_newi0 (cap := 8) X ac_int (by decide) dX7_init_36)) (O_sr (c := 8) (j := 5) tyX7 X rfl inW7 tyX7_ok nmX7 (by decide) fl_X7_22 (Or.inr ⟨hname, rfl, rfl⟩) rfl (by decide +kernel : parseFieldDescriptor (TX7 5).2.2.1 = some (.array .int)) (Or.inr ⟨_, rfl⟩) dX7_init_38))
  (SB_do (XE_2 wR (L_aload_n (r := (some this)) 0 X dX7_init_41 rfl rfl) (XE_1 (L_bipush (v := (8)) X dX7_init_42 (by decide)) (O_newi0 (cap := 8) X ac_int (by decide) dX7_init_44)) (O_sr (c := 8) (j := 6) tyX7 X rfl inW7 tyX7_ok nmX7 (by decide) fl_X7_25 (Or.inr ⟨hname, rfl, rfl⟩) rfl (by decide +kernel : parseFieldDescriptor (TX7 6).2.2.1 = some (.array .int)) (Or.inr ⟨_, rfl⟩) dX7_init_46))
  (SB_do (XE_2 wR (L_aload_n (r := (some this)) 0 X dX7_init_49 rfl rfl) (XE_1 (L_sipush (v := (160)) X dX7_init_50 (by decide)) (O_newi1 (cap := 160) X ac_boolean (by decide) dX7_init_53)) (O_sr (c := 8) (j := 8) tyX7 X rfl inW7 tyX7_ok nmX7 (by decide) fl_X7_28 (Or.inr ⟨hname, rfl, rfl⟩) rfl (by decide +kernel : parseFieldDescriptor (TX7 8).2.2.1 = some (.array .boolean)) (Or.inr ⟨_, rfl⟩) dX7_init_55))
  (SB_do (XE_2 wR (L_aload_n (r := (some this)) 0 X dX7_init_58 rfl rfl) (XE_1 (L_sipush (v := (160)) X dX7_init_59 (by decide)) (O_newi0 (cap := 160) X ac_int (by decide) dX7_init_62)) (O_sr (c := 8) (j := 9) tyX7 X rfl inW7 tyX7_ok nmX7 (by decide) fl_X7_32 (Or.inr ⟨hname, rfl, rfl⟩) rfl (by decide +kernel : parseFieldDescriptor (TX7 9).2.2.1 = some (.array .int)) (Or.inr ⟨_, rfl⟩) dX7_init_64))
  (SB_do (XE_2 wR (L_aload_n (r := (some this)) 0 X dX7_init_67 rfl rfl) (XE_1 (L_sipush (v := (160)) X dX7_init_68 (by decide)) (O_newi0 (cap := 160) X ac_int (by decide) dX7_init_71)) (O_sr (c := 8) (j := 10) tyX7 X rfl inW7 tyX7_ok nmX7 (by decide) fl_X7_35 (Or.inr ⟨hname, rfl, rfl⟩) rfl (by decide +kernel : parseFieldDescriptor (TX7 10).2.2.1 = some (.array .int)) (Or.inr ⟨_, rfl⟩) dX7_init_73))
  (SB_do (XE_2 wR (L_aload_n (r := (some this)) 0 X dX7_init_76 rfl rfl) (XE_1 (L_sipush (v := (160)) X dX7_init_77 (by decide)) (O_newi0 (cap := 160) X ac_int (by decide) dX7_init_80)) (O_sr (c := 8) (j := 11) tyX7 X rfl inW7 tyX7_ok nmX7 (by decide) fl_X7_38 (Or.inr ⟨hname, rfl, rfl⟩) rfl (by decide +kernel : parseFieldDescriptor (TX7 11).2.2.1 = some (.array .int)) (Or.inr ⟨_, rfl⟩) dX7_init_82))
  (SB_do (XE_2 wR (L_aload_n (r := (some this)) 0 X dX7_init_85 rfl rfl) (XE_1 (L_sipush (v := (160)) X dX7_init_86 (by decide)) (O_newi0 (cap := 160) X ac_int (by decide) dX7_init_89)) (O_sr (c := 8) (j := 12) tyX7 X rfl inW7 tyX7_ok nmX7 (by decide) fl_X7_41 (Or.inr ⟨hname, rfl, rfl⟩) rfl (by decide +kernel : parseFieldDescriptor (TX7 12).2.2.1 = some (.array .int)) (Or.inr ⟨_, rfl⟩) dX7_init_91))
  (SB_do (XE_2 wR (L_aload_n (r := (some this)) 0 X dX7_init_94 rfl rfl) (XE_1 (L_sipush (v := (160)) X dX7_init_95 (by decide)) (O_newi0 (cap := 160) X ac_int (by decide) dX7_init_98)) (O_sr (c := 8) (j := 13) tyX7 X rfl inW7 tyX7_ok nmX7 (by decide) fl_X7_44 (Or.inr ⟨hname, rfl, rfl⟩) rfl (by decide +kernel : parseFieldDescriptor (TX7 13).2.2.1 = some (.array .int)) (Or.inr ⟨_, rfl⟩) dX7_init_100))
  (SB_do (XE_2 wR (L_aload_n (r := (some this)) 0 X dX7_init_103 rfl rfl) (XE_1 (L_sipush (v := (160)) X dX7_init_104 (by decide)) (O_newi0 (cap := 160) X ac_int (by decide) dX7_init_107)) (O_sr (c := 8) (j := 14) tyX7 X rfl inW7 tyX7_ok nmX7 (by decide) fl_X7_47 (Or.inr ⟨hname, rfl, rfl⟩) rfl (by decide +kernel : parseFieldDescriptor (TX7 14).2.2.1 = some (.array .int)) (Or.inr ⟨_, rfl⟩) dX7_init_109))
  (SB_do (XE_2 wR (L_aload_n (r := (some this)) 0 X dX7_init_112 rfl rfl) (XE_1 (L_sipush (v := (160)) X dX7_init_113 (by decide)) (O_newi0 (cap := 160) X ac_int (by decide) dX7_init_116)) (O_sr (c := 8) (j := 15) tyX7 X rfl inW7 tyX7_ok nmX7 (by decide) fl_X7_50 (Or.inr ⟨hname, rfl, rfl⟩) rfl (by decide +kernel : parseFieldDescriptor (TX7 15).2.2.1 = some (.array .int)) (Or.inr ⟨_, rfl⟩) dX7_init_118))
  (SB_do (XE_2 wR (L_aload_n (r := (some this)) 0 X dX7_init_121 rfl rfl) (XE_1 (L_sipush (v := (160)) X dX7_init_122 (by decide)) (O_newi0 (cap := 160) X ac_int (by decide) dX7_init_125)) (O_sr (c := 8) (j := 16) tyX7 X rfl inW7 tyX7_ok nmX7 (by decide) fl_X7_53 (Or.inr ⟨hname, rfl, rfl⟩) rfl (by decide +kernel : parseFieldDescriptor (TX7 16).2.2.1 = some (.array .int)) (Or.inr ⟨_, rfl⟩) dX7_init_127))
  (SB_do (XE_2 wR (L_aload_n (r := (some this)) 0 X dX7_init_130 rfl rfl) (XE_1 (L_sipush (v := (160)) X dX7_init_131 (by decide)) (O_newi0 (cap := 160) X ac_int (by decide) dX7_init_134)) (O_sr (c := 8) (j := 17) tyX7 X rfl inW7 tyX7_ok nmX7 (by decide) fl_X7_56 (Or.inr ⟨hname, rfl, rfl⟩) rfl (by decide +kernel : parseFieldDescriptor (TX7 17).2.2.1 = some (.array .int)) (Or.inr ⟨_, rfl⟩) dX7_init_136))
  (SB_do (XE_2 wR (L_aload_n (r := (some this)) 0 X dX7_init_139 rfl rfl) (XE_1 (L_sipush (v := (160)) X dX7_init_140 (by decide)) (O_newi0 (cap := 160) X ac_int (by decide) dX7_init_143)) (O_sr (c := 8) (j := 18) tyX7 X rfl inW7 tyX7_ok nmX7 (by decide) fl_X7_59 (Or.inr ⟨hname, rfl, rfl⟩) rfl (by decide +kernel : parseFieldDescriptor (TX7 18).2.2.1 = some (.array .int)) (Or.inr ⟨_, rfl⟩) dX7_init_145))
  (SB_do (XE_2 wR (L_aload_n (r := (some this)) 0 X dX7_init_148 rfl rfl) (XE_1 (L_sipush (v := (160)) X dX7_init_149 (by decide)) (O_newi1 (cap := 160) X ac_boolean (by decide) dX7_init_152)) (O_sr (c := 8) (j := 19) tyX7 X rfl inW7 tyX7_ok nmX7 (by decide) fl_X7_62 (Or.inr ⟨hname, rfl, rfl⟩) rfl (by decide +kernel : parseFieldDescriptor (TX7 19).2.2.1 = some (.array .boolean)) (Or.inr ⟨_, rfl⟩) dX7_init_154))
  (SB_do (XE_2 wR (L_aload_n (r := (some this)) 0 X dX7_init_157 rfl rfl) (XE_1 (L_sipush (v := (160)) X dX7_init_158 (by decide)) (O_newl (cap := 160) X ac_long (by decide) dX7_init_161)) (O_sr (c := 8) (j := 20) tyX7 X rfl inW7 tyX7_ok nmX7 (by decide) fl_X7_65 (Or.inr ⟨hname, rfl, rfl⟩) rfl (by decide +kernel : parseFieldDescriptor (TX7 20).2.2.1 = some (.array .long)) (Or.inr ⟨_, rfl⟩) dX7_init_163))
  (SB_do (XE_2 wR (L_aload_n (r := (some this)) 0 X dX7_init_166 rfl rfl) (XE_1 (L_sipush (v := (160)) X dX7_init_167 (by decide)) (O_newl (cap := 160) X ac_long (by decide) dX7_init_170)) (O_sr (c := 8) (j := 21) tyX7 X rfl inW7 tyX7_ok nmX7 (by decide) fl_X7_69 (Or.inr ⟨hname, rfl, rfl⟩) rfl (by decide +kernel : parseFieldDescriptor (TX7 21).2.2.1 = some (.array .long)) (Or.inr ⟨_, rfl⟩) dX7_init_172))
  (SB_do (XE_2 wR (L_aload_n (r := (some this)) 0 X dX7_init_175 rfl rfl) (XE_1 (L_sipush (v := (160)) X dX7_init_176 (by decide)) (O_newl (cap := 160) X ac_long (by decide) dX7_init_179)) (O_sr (c := 8) (j := 22) tyX7 X rfl inW7 tyX7_ok nmX7 (by decide) fl_X7_72 (Or.inr ⟨hname, rfl, rfl⟩) rfl (by decide +kernel : parseFieldDescriptor (TX7 22).2.2.1 = some (.array .long)) (Or.inr ⟨_, rfl⟩) dX7_init_181))
  (SB_do (XE_2 wR (L_aload_n (r := (some this)) 0 X dX7_init_184 rfl rfl) (XE_1 (L_sipush (v := (160)) X dX7_init_185 (by decide)) (O_newl (cap := 160) X ac_long (by decide) dX7_init_188)) (O_sr (c := 8) (j := 23) tyX7 X rfl inW7 tyX7_ok nmX7 (by decide) fl_X7_75 (Or.inr ⟨hname, rfl, rfl⟩) rfl (by decide +kernel : parseFieldDescriptor (TX7 23).2.2.1 = some (.array .long)) (Or.inr ⟨_, rfl⟩) dX7_init_190))
  (SB_do (XE_2 wR (L_aload_n (r := (some this)) 0 X dX7_init_193 rfl rfl) (XE_1 (L_sipush (v := (9600)) X dX7_init_194 (by decide)) (O_newi0 (cap := 9600) X ac_int (by decide) dX7_init_197)) (O_sr (c := 8) (j := 24) tyX7 X rfl inW7 tyX7_ok nmX7 (by decide) fl_X7_78 (Or.inr ⟨hname, rfl, rfl⟩) rfl (by decide +kernel : parseFieldDescriptor (TX7 24).2.2.1 = some (.array .int)) (Or.inr ⟨_, rfl⟩) dX7_init_199))
  (SB_do (XE_2 wR (L_aload_n (r := (some this)) 0 X dX7_init_202 rfl rfl) (XE_1 (L_bipush (v := (40)) X dX7_init_203 (by decide)) (O_newi0 (cap := 40) X ac_int (by decide) dX7_init_205)) (O_sr (c := 8) (j := 25) tyX7 X rfl inW7 tyX7_ok nmX7 (by decide) fl_X7_81 (Or.inr ⟨hname, rfl, rfl⟩) rfl (by decide +kernel : parseFieldDescriptor (TX7 25).2.2.1 = some (.array .int)) (Or.inr ⟨_, rfl⟩) dX7_init_207))
  (SB_do (XE_2 wR (L_aload_n (r := (some this)) 0 X dX7_init_210 rfl rfl) (XE_1 (L_bipush (v := (40)) X dX7_init_211 (by decide)) (O_newi0 (cap := 40) X ac_int (by decide) dX7_init_213)) (O_sr (c := 8) (j := 26) tyX7 X rfl inW7 tyX7_ok nmX7 (by decide) fl_X7_84 (Or.inr ⟨hname, rfl, rfl⟩) rfl (by decide +kernel : parseFieldDescriptor (TX7 26).2.2.1 = some (.array .int)) (Or.inr ⟨_, rfl⟩) dX7_init_215))
  (SB_do (XE_2 wR (L_aload_n (r := (some this)) 0 X dX7_init_218 rfl rfl) (XE_1 (L_iconst (v := 5) X dX7_init_219 (by decide)) (O_newi0 (cap := 5) X ac_int (by decide) dX7_init_220)) (O_sr (c := 8) (j := 27) tyX7 X rfl inW7 tyX7_ok nmX7 (by decide) fl_X7_87 (Or.inr ⟨hname, rfl, rfl⟩) rfl (by decide +kernel : parseFieldDescriptor (TX7 27).2.2.1 = some (.array .int)) (Or.inr ⟨_, rfl⟩) dX7_init_222))
  (SB_do (XE_2 wR (L_aload_n (r := (some this)) 0 X dX7_init_225 rfl rfl) (XE_1 (L_iconst (v := 5) X dX7_init_226 (by decide)) (O_newi0 (cap := 5) X ac_int (by decide) dX7_init_227)) (O_sr (c := 8) (j := 28) tyX7 X rfl inW7 tyX7_ok nmX7 (by decide) fl_X7_90 (Or.inr ⟨hname, rfl, rfl⟩) rfl (by decide +kernel : parseFieldDescriptor (TX7 28).2.2.1 = some (.array .int)) (Or.inr ⟨_, rfl⟩) dX7_init_229))
  (SB_do (XE_2 wR (L_aload_n (r := (some this)) 0 X dX7_init_232 rfl rfl) (XE_1 (L_sipush (v := (150)) X dX7_init_233 (by decide)) (O_newi0 (cap := 150) X ac_int (by decide) dX7_init_236)) (O_sr (c := 8) (j := 31) tyX7 X rfl inW7 tyX7_ok nmX7 (by decide) fl_X7_93 (Or.inr ⟨hname, rfl, rfl⟩) rfl (by decide +kernel : parseFieldDescriptor (TX7 31).2.2.1 = some (.array .int)) (Or.inr ⟨_, rfl⟩) dX7_init_238))
  (SB_do (XE_2 wR (L_aload_n (r := (some this)) 0 X dX7_init_241 rfl rfl) (XE_1 (L_sipush (v := (150)) X dX7_init_242 (by decide)) (O_newi0 (cap := 150) X ac_int (by decide) dX7_init_245)) (O_sr (c := 8) (j := 32) tyX7 X rfl inW7 tyX7_ok nmX7 (by decide) fl_X7_96 (Or.inr ⟨hname, rfl, rfl⟩) rfl (by decide +kernel : parseFieldDescriptor (TX7 32).2.2.1 = some (.array .int)) (Or.inr ⟨_, rfl⟩) dX7_init_247))
  (SB_do (XE_2 wR (L_aload_n (r := (some this)) 0 X dX7_init_250 rfl rfl) (XE_1 (L_sipush (v := (150)) X dX7_init_251 (by decide)) (O_newi0 (cap := 150) X ac_int (by decide) dX7_init_254)) (O_sr (c := 8) (j := 33) tyX7 X rfl inW7 tyX7_ok nmX7 (by decide) fl_X7_99 (Or.inr ⟨hname, rfl, rfl⟩) rfl (by decide +kernel : parseFieldDescriptor (TX7 33).2.2.1 = some (.array .int)) (Or.inr ⟨_, rfl⟩) dX7_init_256))
  (SB_do (XE_2 wR (L_aload_n (r := (some this)) 0 X dX7_init_259 rfl rfl) (XE_1 (L_sipush (v := (150)) X dX7_init_260 (by decide)) (O_newi0 (cap := 150) X ac_int (by decide) dX7_init_263)) (O_sr (c := 8) (j := 34) tyX7 X rfl inW7 tyX7_ok nmX7 (by decide) fl_X7_102 (Or.inr ⟨hname, rfl, rfl⟩) rfl (by decide +kernel : parseFieldDescriptor (TX7 34).2.2.1 = some (.array .int)) (Or.inr ⟨_, rfl⟩) dX7_init_265))
  (SB_do (XE_2 wR (L_aload_n (r := (some this)) 0 X dX7_init_268 rfl rfl) (XE_1 (L_sipush (v := (150)) X dX7_init_269 (by decide)) (O_newi0 (cap := 150) X ac_int (by decide) dX7_init_272)) (O_sr (c := 8) (j := 35) tyX7 X rfl inW7 tyX7_ok nmX7 (by decide) fl_X7_105 (Or.inr ⟨hname, rfl, rfl⟩) rfl (by decide +kernel : parseFieldDescriptor (TX7 35).2.2.1 = some (.array .int)) (Or.inr ⟨_, rfl⟩) dX7_init_274))
  (SB_do (XE_2 wR (L_aload_n (r := (some this)) 0 X dX7_init_277 rfl rfl) (XE_1 (L_sipush (v := (150)) X dX7_init_278 (by decide)) (O_newi0 (cap := 150) X ac_int (by decide) dX7_init_281)) (O_sr (c := 8) (j := 36) tyX7 X rfl inW7 tyX7_ok nmX7 (by decide) fl_X7_108 (Or.inr ⟨hname, rfl, rfl⟩) rfl (by decide +kernel : parseFieldDescriptor (TX7 36).2.2.1 = some (.array .int)) (Or.inr ⟨_, rfl⟩) dX7_init_283))
  (SB_do (XE_2 wR (L_aload_n (r := (some this)) 0 X dX7_init_286 rfl rfl) (XE_1 (L_sipush (v := (150)) X dX7_init_287 (by decide)) (O_newi0 (cap := 150) X ac_int (by decide) dX7_init_290)) (O_sr (c := 8) (j := 37) tyX7 X rfl inW7 tyX7_ok nmX7 (by decide) fl_X7_111 (Or.inr ⟨hname, rfl, rfl⟩) rfl (by decide +kernel : parseFieldDescriptor (TX7 37).2.2.1 = some (.array .int)) (Or.inr ⟨_, rfl⟩) dX7_init_292))
  (SB_do (XE_2 wR (L_aload_n (r := (some this)) 0 X dX7_init_295 rfl rfl) (XE_1 (L_sipush (v := (150)) X dX7_init_296 (by decide)) (O_newi0 (cap := 150) X ac_int (by decide) dX7_init_299)) (O_sr (c := 8) (j := 38) tyX7 X rfl inW7 tyX7_ok nmX7 (by decide) fl_X7_114 (Or.inr ⟨hname, rfl, rfl⟩) rfl (by decide +kernel : parseFieldDescriptor (TX7 38).2.2.1 = some (.array .int)) (Or.inr ⟨_, rfl⟩) dX7_init_301))
  (SB_do (XE_2 wR (L_aload_n (r := (some this)) 0 X dX7_init_304 rfl rfl) (XE_1 (L_sipush (v := (150)) X dX7_init_305 (by decide)) (O_newi0 (cap := 150) X ac_int (by decide) dX7_init_308)) (O_sr (c := 8) (j := 39) tyX7 X rfl inW7 tyX7_ok nmX7 (by decide) fl_X7_117 (Or.inr ⟨hname, rfl, rfl⟩) rfl (by decide +kernel : parseFieldDescriptor (TX7 39).2.2.1 = some (.array .int)) (Or.inr ⟨_, rfl⟩) dX7_init_310))
  (SB_do (XE_2 wR (L_aload_n (r := (some this)) 0 X dX7_init_313 rfl rfl) (XE_1 (L_sipush (v := (150)) X dX7_init_314 (by decide)) (O_newi0 (cap := 150) X ac_int (by decide) dX7_init_317)) (O_sr (c := 8) (j := 40) tyX7 X rfl inW7 tyX7_ok nmX7 (by decide) fl_X7_120 (Or.inr ⟨hname, rfl, rfl⟩) rfl (by decide +kernel : parseFieldDescriptor (TX7 40).2.2.1 = some (.array .int)) (Or.inr ⟨_, rfl⟩) dX7_init_319))
  (SB_do (XE_2 wR (L_aload_n (r := (some this)) 0 X dX7_init_322 rfl rfl) (XE_1 (L_sipush (v := (150)) X dX7_init_323 (by decide)) (O_newi0 (cap := 150) X ac_int (by decide) dX7_init_326)) (O_sr (c := 8) (j := 41) tyX7 X rfl inW7 tyX7_ok nmX7 (by decide) fl_X7_123 (Or.inr ⟨hname, rfl, rfl⟩) rfl (by decide +kernel : parseFieldDescriptor (TX7 41).2.2.1 = some (.array .int)) (Or.inr ⟨_, rfl⟩) dX7_init_328))
  (SB_do (XE_2 wR (L_aload_n (r := (some this)) 0 X dX7_init_331 rfl rfl) (XE_1 (L_sipush (v := (150)) X dX7_init_332 (by decide)) (O_newi1 (cap := 150) X ac_boolean (by decide) dX7_init_335)) (O_sr (c := 8) (j := 42) tyX7 X rfl inW7 tyX7_ok nmX7 (by decide) fl_X7_126 (Or.inr ⟨hname, rfl, rfl⟩) rfl (by decide +kernel : parseFieldDescriptor (TX7 42).2.2.1 = some (.array .boolean)) (Or.inr ⟨_, rfl⟩) dX7_init_337))
  (SB_do (XE_2 wR (L_aload_n (r := (some this)) 0 X dX7_init_340 rfl rfl) (XE_1 (L_sipush (v := (150)) X dX7_init_341 (by decide)) (O_newi1 (cap := 150) X ac_boolean (by decide) dX7_init_344)) (O_sr (c := 8) (j := 43) tyX7 X rfl inW7 tyX7_ok nmX7 (by decide) fl_X7_129 (Or.inr ⟨hname, rfl, rfl⟩) rfl (by decide +kernel : parseFieldDescriptor (TX7 43).2.2.1 = some (.array .boolean)) (Or.inr ⟨_, rfl⟩) dX7_init_346))
  (SB_do (XE_2 wR (L_aload_n (r := (some this)) 0 X dX7_init_349 rfl rfl) (XE_1 (L_sipush (v := (1650)) X dX7_init_350 (by decide)) (O_newi1 (cap := 1650) X ac_boolean (by decide) dX7_init_353)) (O_sr (c := 8) (j := 44) tyX7 X rfl inW7 tyX7_ok nmX7 (by decide) fl_X7_132 (Or.inr ⟨hname, rfl, rfl⟩) rfl (by decide +kernel : parseFieldDescriptor (TX7 44).2.2.1 = some (.array .boolean)) (Or.inr ⟨_, rfl⟩) dX7_init_355))
  (SB_let (L_iconst (v := 0) X dX7_init_358 (by decide)) (S_istore_n (ev := fun k_124 => [(1, .int k_124), (0, va_rf (some this))]) X dX7_init_359 rfl (by rw [hN]; decide) (fun _ => rfl)) fun k_124 =>
  (SB_seq (ST_loop (σ := Int32) (upd := (fun (s : Int32) => [(1, .int s), (0, va_rf (some this))])) (s0 := k_124) (n := 2000) (fun mm a b h => GG_sub [0, 1] rfl h)
  (fun s125 => (CE_2 wI (L_iload_n (x := s125) 0 X dX7_init_360 rfl rfl) (L_iconst (v := 3) X dX7_init_361 (by decide)) (C_lt_F X dX7_init_362 (by decide))))
  (fun s125 => (ST_post (ST_do (XE_3 wR wI (XE_1 (L_aload_n (r := (some this)) 1 X dX7_init_365 rfl rfl) (O_gr (c := 8) (j := 1) X rfl inW7 (by decide) fl_X7_13 rfl dX7_init_366)) (L_iload_n (x := s125) 0 X dX7_init_369 rfl rfl) (L_iconst (v := (-1)) X dX7_init_370 (by decide)) (O_sai X dX7_init_371))
  (ST_pre (env' := [(1, .int (s125 + 1)), (0, va_rf (some this))]) (S_iinc 0 X dX7_init_372 rfl rfl (by rw [hN]; decide) rfl)
  (ST_done (upd := (fun (s : Int32) => [(1, .int s), (0, va_rf (some this))])) (s := (s125 + 1)) [0, 1] rfl))) fun _ mm a b h => S_goto X dX7_init_375 (by decide) [] mm a b h))) fun s132 =>
  (SB_let (L_iconst (v := 0) X dX7_init_378 (by decide)) (S_istore_n (ev := fun k_133 => [(1, .int k_133), (0, va_rf (some this))]) X dX7_init_379 rfl (by rw [hN]; decide) (fun _ => rfl)) fun k_133 =>
  (SB_seq (ST_loop (σ := Int32) (upd := (fun (s : Int32) => [(1, .int s), (0, va_rf (some this))])) (s0 := k_133) (n := 2000) (fun mm a b h => GG_sub [0, 1] rfl h)
  (fun s134 => (CE_2 wI (L_iload_n (x := s134) 0 X dX7_init_380 rfl rfl) (L_bipush (v := (40)) X dX7_init_381 (by decide)) (C_lt_F X dX7_init_383 (by decide))))
  (fun s134 => (ST_post (ST_do (XE_3 wR wI (XE_1 (L_aload_n (r := (some this)) 1 X dX7_init_386 rfl rfl) (O_gr (c := 8) (j := 25) X rfl inW7 (by decide) fl_X7_81 rfl dX7_init_387)) (L_iload_n (x := s134) 0 X dX7_init_390 rfl rfl) (L_iconst (v := (-1)) X dX7_init_391 (by decide)) (O_sai X dX7_init_392))
  (ST_pre (env' := [(1, .int (s134 + 1)), (0, va_rf (some this))]) (S_iinc 0 X dX7_init_393 rfl rfl (by rw [hN]; decide) rfl)
  (ST_done (upd := (fun (s : Int32) => [(1, .int s), (0, va_rf (some this))])) (s := (s134 + 1)) [0, 1] rfl))) fun _ mm a b h => S_goto X dX7_init_396 (by decide) [] mm a b h))) fun s141 =>
  (SB_retU X C hr dX7_init_399))))))))))))))))))))))))))))))))))))))))))))))) h (by rw [hR]; decide) (by rw [hR]; decide)
theorem dX7_thrown_0 : decode cX7_thrown 0 = .ok (.aload_n 0, 1) := by decide +kernel
theorem dX7_thrown_1 : decode cX7_thrown 1 = .ok (.getfield 135, 3) := by decide +kernel
theorem dX7_thrown_4 : decode cX7_thrown 4 = .ok (.ireturn, 1) := by decide +kernel
theorem lk_X7_thrown : LK yX7_thrown cX7_thrown 1 (some .int) 0 := ⟨qW_at 1443 (by decide +kernel) rfl, qW_at 78 (by decide +kernel) rfl, by decide, by decide, by decide +kernel⟩
theorem im_X7_thrown : Cond.instanceMethod yX7_thrown ∈ qW := qW_at 1441 (by decide +kernel) rfl
theorem se_X7_thrown : Cond.selects RX7 yX7_thrown yX7_thrown ∈ qW := qW_at 1442 (by decide +kernel) rfl
def F_X7_thrown (this : Nat) : QX Int32 :=
  (xb (xp (some this)) fun v1 => xgi 8 45 v1)
set_option maxRecDepth 100000 in
set_option maxHeartbeats 4000000 in
theorem M_X7_thrown (this : Nat) : MM yX7_thrown cX7_thrown 1 (some .int) 0 0 0 0 encI [.ref this] (F_X7_thrown this) := by
  refine MM_of (env0 := [(0, va_rf (some this))]) (by decide) (by exact Nat.le_of_ble_eq_true rfl) (by rfl) (fun k mm res X C hR hN hr hname h => ?_)
  have X : CX k cX7_thrown RX7 := X
  have hT : TH k (fun e m' => res = (.error e, m')) := TH_of C
  have htr := C.2.2.2.1
  unfold F_X7_thrown at h
  exact SB_go (T := fun e m' => res = (.error e, m')) (RET := fun v m' => res = (.ok v, m')) (SB_retI X C hr dX7_thrown_4 (XE_1 (L_aload_n (r := (some this)) 0 X dX7_thrown_0 rfl rfl) (O_gi (c := 8) (j := 45) X rfl inW7 (by decide) fl_X7_135 rfl dX7_thrown_1))) h (by rw [hR]; decide) (by rw [hR]; decide)
theorem dX7_in_0 : decode cX7_in 0 = .ok (.iload_n 0, 1) := by decide +kernel
theorem dX7_in_1 : decode cX7_in 1 = .ok (.iload_n 1, 1) := by decide +kernel
theorem dX7_in_2 : decode cX7_in 2 = .ok (.if_icmp .lt 12, 3) := by decide +kernel
theorem dX7_in_5 : decode cX7_in 5 = .ok (.iload_n 0, 1) := by decide +kernel
theorem dX7_in_6 : decode cX7_in 6 = .ok (.iload_n 2, 1) := by decide +kernel
theorem dX7_in_7 : decode cX7_in 7 = .ok (.if_icmp .gt 7, 3) := by decide +kernel
theorem dX7_in_10 : decode cX7_in 10 = .ok (.iconst 1, 1) := by decide +kernel
theorem dX7_in_11 : decode cX7_in 11 = .ok (.goto 4, 3) := by decide +kernel
theorem dX7_in_14 : decode cX7_in 14 = .ok (.iconst 0, 1) := by decide +kernel
theorem dX7_in_15 : decode cX7_in 15 = .ok (.ireturn, 1) := by decide +kernel
theorem lk_X7_in : LK yX7_in cX7_in 3 (some .boolean) 3 := ⟨qW_at 1453 (by decide +kernel) rfl, qW_at 78 (by decide +kernel) rfl, by decide, by decide, by decide +kernel⟩
theorem st_X7_in : Cond.static yX7_in ∈ qW := qW_at 1452 (by decide +kernel) rfl
def F_X7_in (v_ : Int32) (low_ : Int32) (high_ : Int32) : QX Int32 :=
  (xb (xb (xb (xb (xp v_) fun v1 => xb (xp low_) fun v2 => xp (decide (v2 ≤ v1))) fun v5 => if v5 then (xb (xp v_) fun v3 => xb (xp high_) fun v4 => xp (decide (v3 ≤ v4))) else xp false) fun v6 => xp (b2i v6)) xz)
set_option maxRecDepth 100000 in
set_option maxHeartbeats 4000000 in
theorem M_X7_in (v_ : Int32) (low_ : Int32) (high_ : Int32) : MM yX7_in cX7_in 3 (some .boolean) 0 0 0 0 encI [.int v_, .int low_, .int high_] (F_X7_in v_ low_ high_) := by
  refine MM_of (env0 := [(0, .int v_), (1, .int low_), (2, .int high_)]) (by decide) (by exact Nat.le_of_ble_eq_true rfl) (by rfl) (fun k mm res X C hR hN hr hname h => ?_)
  have X : CX k cX7_in RX7 := X
  have hT : TH k (fun e m' => res = (.error e, m')) := TH_of C
  have htr := C.2.2.2.1
  unfold F_X7_in at h
  exact SB_go (T := fun e m' => res = (.error e, m')) (RET := fun v m' => res = (.ok v, m')) (SB_retZ X C hr dX7_in_15 (XE_b2i (CE_and (CE_2 wI (L_iload_n (x := v_) 0 X dX7_in_0 rfl rfl) (L_iload_n (x := low_) 1 X dX7_in_1 rfl rfl) (C_ge_F X dX7_in_2 (by decide))) (CE_2 wI (L_iload_n (x := v_) 0 X dX7_in_5 rfl rfl) (L_iload_n (x := high_) 2 X dX7_in_6 rfl rfl) (C_le_F X dX7_in_7 (by decide)))) (S_b1 X dX7_in_10 dX7_in_11 (by decide)) (S_b0 X dX7_in_14))) h (by rw [hR]; decide) (by rw [hR]; decide)
theorem dX7_goes_0 : decode cX7_goes 0 = .ok (.aload_n 0, 1) := by decide +kernel
theorem dX7_goes_1 : decode cX7_goes 1 = .ok (.iload_n 1, 1) := by decide +kernel
theorem dX7_goes_2 : decode cX7_goes 2 = .ok (.ifCond .ne 7, 3) := by decide +kernel
theorem dX7_goes_5 : decode cX7_goes 5 = .ok (.iconst 1, 1) := by decide +kernel
theorem dX7_goes_6 : decode cX7_goes 6 = .ok (.goto 20, 3) := by decide +kernel
theorem dX7_goes_9 : decode cX7_goes 9 = .ok (.iload_n 2, 1) := by decide +kernel
theorem dX7_goes_10 : decode cX7_goes 10 = .ok (.ifCond .ne 7, 3) := by decide +kernel
theorem dX7_goes_13 : decode cX7_goes 13 = .ok (.iconst 2, 1) := by decide +kernel
theorem dX7_goes_14 : decode cX7_goes 14 = .ok (.goto 12, 3) := by decide +kernel
theorem dX7_goes_17 : decode cX7_goes 17 = .ok (.iload_n 3, 1) := by decide +kernel
theorem dX7_goes_18 : decode cX7_goes 18 = .ok (.ifCond .ne 7, 3) := by decide +kernel
theorem dX7_goes_21 : decode cX7_goes 21 = .ok (.iconst 3, 1) := by decide +kernel
theorem dX7_goes_22 : decode cX7_goes 22 = .ok (.goto 4, 3) := by decide +kernel
theorem dX7_goes_25 : decode cX7_goes 25 = .ok (.iconst 0, 1) := by decide +kernel
theorem dX7_goes_26 : decode cX7_goes 26 = .ok (.putfield 135, 3) := by decide +kernel
theorem dX7_goes_29 : decode cX7_goes 29 = .ok (.aload_n 0, 1) := by decide +kernel
theorem dX7_goes_30 : decode cX7_goes 30 = .ok (.getfield 135, 3) := by decide +kernel
theorem dX7_goes_33 : decode cX7_goes 33 = .ok (.ifCond .ne 7, 3) := by decide +kernel
theorem dX7_goes_36 : decode cX7_goes 36 = .ok (.iconst 1, 1) := by decide +kernel
theorem dX7_goes_37 : decode cX7_goes 37 = .ok (.goto 4, 3) := by decide +kernel
theorem dX7_goes_40 : decode cX7_goes 40 = .ok (.iconst 0, 1) := by decide +kernel
theorem dX7_goes_41 : decode cX7_goes 41 = .ok (.ireturn, 1) := by decide +kernel
theorem lk_X7_goes : LK yX7_goes cX7_goes 4 (some .boolean) 3 := ⟨qW_at 1457 (by decide +kernel) rfl, qW_at 78 (by decide +kernel) rfl, by decide, by decide, by decide +kernel⟩
theorem im_X7_goes : Cond.instanceMethod yX7_goes ∈ qW := qW_at 1456 (by decide +kernel) rfl
theorem se_X7_goes : Cond.selects RX7 yX7_goes yX7_goes ∈ qW := qW_at 28 (by decide +kernel) rfl
def F_X7_goes (this : Nat) (one_ : Int32) (two_ : Int32) (three_ : Int32) : QX Int32 :=
  (xb (xb (xp (some this)) fun v10 => xb (xb (xb (xb (xp one_) fun v1 => xp (decide (¬ v1 = 0))) fun v2 => xp (!v2)) fun v9 => if v9 then (xp (1 : Int32)) else (xb (xb (xb (xp two_) fun v3 => xp (decide (¬ v3 = 0))) fun v4 => xp (!v4)) fun v8 => if v8 then (xp (2 : Int32)) else (xb (xb (xb (xp three_) fun v5 => xp (decide (¬ v5 = 0))) fun v6 => xp (!v6)) fun v7 => if v7 then (xp (3 : Int32)) else (xp (0 : Int32))))) fun v11 => xsi 8 45 v10 v11) fun _ =>
  (xb (xb (xb (xb (xp (some this)) fun v12 => xgi 8 45 v12) fun v13 => xp (decide (v13 = 0))) fun v14 => xp (b2i v14)) xz))
set_option maxRecDepth 100000 in
set_option maxHeartbeats 4000000 in
theorem M_X7_goes (this : Nat) (one_ : Int32) (two_ : Int32) (three_ : Int32) : MM yX7_goes cX7_goes 4 (some .boolean) 0 0 0 0 encI [.ref this, .int one_, .int two_, .int three_] (F_X7_goes this one_ two_ three_) := by
  refine MM_of (env0 := [(0, va_rf (some this)), (1, .int one_), (2, .int two_), (3, .int three_)]) (by decide) (by exact Nat.le_of_ble_eq_true rfl) (by rfl) (fun k mm res X C hR hN hr hname h => ?_)
  have X : CX k cX7_goes RX7 := X
  have hT : TH k (fun e m' => res = (.error e, m')) := TH_of C
  have htr := C.2.2.2.1
  unfold F_X7_goes at h
  exact SB_go (T := fun e m' => res = (.error e, m')) (RET := fun v m' => res = (.ok v, m')) (SB_do (XE_2 wR (L_aload_n (r := (some this)) 0 X dX7_goes_0 rfl rfl) (XE_tern (CE_not (CE_1 (L_iload_n (x := one_) 1 X dX7_goes_1 rfl rfl) (Z_ne_T X dX7_goes_2 (by decide)))) (L_iconst (v := 1) X dX7_goes_5 (by decide)) (S_goto X dX7_goes_6 (by decide)) (XE_tern (CE_not (CE_1 (L_iload_n (x := two_) 2 X dX7_goes_9 rfl rfl) (Z_ne_T X dX7_goes_10 (by decide)))) (L_iconst (v := 2) X dX7_goes_13 (by decide)) (S_goto X dX7_goes_14 (by decide)) (XE_tern (CE_not (CE_1 (L_iload_n (x := three_) 3 X dX7_goes_17 rfl rfl) (Z_ne_T X dX7_goes_18 (by decide)))) (L_iconst (v := 3) X dX7_goes_21 (by decide)) (S_goto X dX7_goes_22 (by decide)) (L_iconst (v := 0) X dX7_goes_25 (by decide))))) (O_si (c := 8) (j := 45) tyX7 X rfl inW7 tyX7_ok nmX7 (by decide) fl_X7_135 (Or.inl rfl) rfl (by decide +kernel) dX7_goes_26))
  (SB_retZ X C hr dX7_goes_41 (XE_b2i (CE_1 (XE_1 (L_aload_n (r := (some this)) 0 X dX7_goes_29 rfl rfl) (O_gi (c := 8) (j := 45) X rfl inW7 (by decide) fl_X7_135 rfl dX7_goes_30)) (Z_eq_F X dX7_goes_33 (by decide))) (S_b1 X dX7_goes_36 dX7_goes_37 (by decide)) (S_b0 X dX7_goes_40)))) h (by rw [hR]; decide) (by rw [hR]; decide)
theorem dX7_tells_0 : decode cX7_tells 0 = .ok (.aload_n 0, 1) := by decide +kernel
theorem dX7_tells_1 : decode cX7_tells 1 = .ok (.iconst 0, 1) := by decide +kernel
theorem dX7_tells_2 : decode cX7_tells 2 = .ok (.putfield 135, 3) := by decide +kernel
theorem dX7_tells_5 : decode cX7_tells 5 = .ok (.iload_n 1, 1) := by decide +kernel
theorem dX7_tells_6 : decode cX7_tells 6 = .ok (.ireturn, 1) := by decide +kernel
theorem lk_X7_tells : LK yX7_tells cX7_tells 2 (some .int) 1 := ⟨qW_at 1668 (by decide +kernel) rfl, qW_at 78 (by decide +kernel) rfl, by decide, by decide, by decide +kernel⟩
theorem im_X7_tells : Cond.instanceMethod yX7_tells ∈ qW := qW_at 1667 (by decide +kernel) rfl
theorem se_X7_tells : Cond.selects RX7 yX7_tells yX7_tells ∈ qW := qW_at 57 (by decide +kernel) rfl
def F_X7_tells (this : Nat) (v_ : Int32) : QX Int32 :=
  (xb (xb (xp (some this)) fun v1 => xb (xp (0 : Int32)) fun v2 => xsi 8 45 v1 v2) fun _ =>
  (xp v_))
set_option maxRecDepth 100000 in
set_option maxHeartbeats 4000000 in
theorem M_X7_tells (this : Nat) (v_ : Int32) : MM yX7_tells cX7_tells 2 (some .int) 0 0 0 0 encI [.ref this, .int v_] (F_X7_tells this v_) := by
  refine MM_of (env0 := [(0, va_rf (some this)), (1, .int v_)]) (by decide) (by exact Nat.le_of_ble_eq_true rfl) (by rfl) (fun k mm res X C hR hN hr hname h => ?_)
  have X : CX k cX7_tells RX7 := X
  have hT : TH k (fun e m' => res = (.error e, m')) := TH_of C
  have htr := C.2.2.2.1
  unfold F_X7_tells at h
  exact SB_go (T := fun e m' => res = (.error e, m')) (RET := fun v m' => res = (.ok v, m')) (SB_do (XE_2 wR (L_aload_n (r := (some this)) 0 X dX7_tells_0 rfl rfl) (L_iconst (v := 0) X dX7_tells_1 (by decide)) (O_si (c := 8) (j := 45) tyX7 X rfl inW7 tyX7_ok nmX7 (by decide) fl_X7_135 (Or.inl rfl) rfl (by decide +kernel) dX7_tells_2))
  (SB_retI X C hr dX7_tells_6 (L_iload_n (x := v_) 1 X dX7_tells_5 rfl rfl))) h (by rw [hR]; decide) (by rw [hR]; decide)
theorem dX7_isPerson_0 : decode cX7_isPerson 0 = .ok (.iload_n 0, 1) := by decide +kernel
theorem dX7_isPerson_1 : decode cX7_isPerson 1 = .ok (.iconst 0, 1) := by decide +kernel
theorem dX7_isPerson_2 : decode cX7_isPerson 2 = .ok (.iconst 4, 1) := by decide +kernel
theorem dX7_isPerson_3 : decode cX7_isPerson 3 = .ok (.invokestatic 139, 3) := by decide +kernel
theorem dX7_isPerson_6 : decode cX7_isPerson 6 = .ok (.ireturn, 1) := by decide +kernel
theorem lk_X7_isPerson : LK yX7_isPerson cX7_isPerson 1 (some .boolean) 1 := ⟨qW_at 1491 (by decide +kernel) rfl, qW_at 78 (by decide +kernel) rfl, by decide, by decide, by decide +kernel⟩
theorem st_X7_isPerson : Cond.static yX7_isPerson ∈ qW := qW_at 1490 (by decide +kernel) rfl
def F_X7_isPerson (its_ : Int32) : QX Int32 :=
  (xb (xb (xp its_) fun v1 => xb (xp (0 : Int32)) fun v2 => xb (xp (4 : Int32)) fun v3 => F_X7_in v1 v2 v3) xz)
set_option maxRecDepth 100000 in
set_option maxHeartbeats 4000000 in
theorem M_X7_isPerson (its_ : Int32) : MM yX7_isPerson cX7_isPerson 1 (some .boolean) 1 22 0 0 encI [.int its_] (F_X7_isPerson its_) := by
  refine MM_of (env0 := [(0, .int its_)]) (by decide) (by exact Nat.le_of_ble_eq_true rfl) (by rfl) (fun k mm res X C hR hN hr hname h => ?_)
  have X : CX k cX7_isPerson RX7 := X
  have hT : TH k (fun e m' => res = (.error e, m')) := TH_of C
  have htr := C.2.2.2.1
  unfold F_X7_isPerson at h
  exact SB_go (T := fun e m' => res = (.error e, m')) (RET := fun v m' => res = (.ok v, m')) (SB_retZ X C hr dX7_isPerson_6 (XE_3 (pB := pI) wI wI (L_iload_n (x := its_) 0 X dX7_isPerson_0 rfl rfl) (L_iconst (v := 0) X dX7_isPerson_1 (by decide)) (L_iconst (v := 4) X dX7_isPerson_2 (by decide)) (fun v0 v1 v2 st mm a b hd hc hs h => g_callS (st := st) X hT htr (M_X7_in v0 v1 v2) lk_X7_in st_X7_in ml_X7_139 rfl (by rw [hR]; exact ⟨Nat.le_of_ble_eq_true rfl, Nat.le_of_ble_eq_true rfl⟩) (Nat.le_trans hd (by decide)) ⟨hc, hs⟩ dX7_isPerson_3 h))) h (by rw [hR]; decide) (by rw [hR]; decide)
theorem dX7_isZone_0 : decode cX7_isZone 0 = .ok (.iload_n 0, 1) := by decide +kernel
theorem dX7_isZone_1 : decode cX7_isZone 1 = .ok (.iconst 0, 1) := by decide +kernel
theorem dX7_isZone_2 : decode cX7_isZone 2 = .ok (.iconst 2, 1) := by decide +kernel
theorem dX7_isZone_3 : decode cX7_isZone 3 = .ok (.invokestatic 139, 3) := by decide +kernel
theorem dX7_isZone_6 : decode cX7_isZone 6 = .ok (.ireturn, 1) := by decide +kernel
theorem lk_X7_isZone : LK yX7_isZone cX7_isZone 1 (some .boolean) 1 := ⟨qW_at 1450 (by decide +kernel) rfl, qW_at 78 (by decide +kernel) rfl, by decide, by decide, by decide +kernel⟩
theorem st_X7_isZone : Cond.static yX7_isZone ∈ qW := qW_at 1449 (by decide +kernel) rfl
def F_X7_isZone (its_ : Int32) : QX Int32 :=
  (xb (xb (xp its_) fun v1 => xb (xp (0 : Int32)) fun v2 => xb (xp (2 : Int32)) fun v3 => F_X7_in v1 v2 v3) xz)
set_option maxRecDepth 100000 in
set_option maxHeartbeats 4000000 in
theorem M_X7_isZone (its_ : Int32) : MM yX7_isZone cX7_isZone 1 (some .boolean) 1 22 0 0 encI [.int its_] (F_X7_isZone its_) := by
  refine MM_of (env0 := [(0, .int its_)]) (by decide) (by exact Nat.le_of_ble_eq_true rfl) (by rfl) (fun k mm res X C hR hN hr hname h => ?_)
  have X : CX k cX7_isZone RX7 := X
  have hT : TH k (fun e m' => res = (.error e, m')) := TH_of C
  have htr := C.2.2.2.1
  unfold F_X7_isZone at h
  exact SB_go (T := fun e m' => res = (.error e, m')) (RET := fun v m' => res = (.ok v, m')) (SB_retZ X C hr dX7_isZone_6 (XE_3 (pB := pI) wI wI (L_iload_n (x := its_) 0 X dX7_isZone_0 rfl rfl) (L_iconst (v := 0) X dX7_isZone_1 (by decide)) (L_iconst (v := 2) X dX7_isZone_2 (by decide)) (fun v0 v1 v2 st mm a b hd hc hs h => g_callS (st := st) X hT htr (M_X7_in v0 v1 v2) lk_X7_in st_X7_in ml_X7_139 rfl (by rw [hR]; exact ⟨Nat.le_of_ble_eq_true rfl, Nat.le_of_ble_eq_true rfl⟩) (Nat.le_trans hd (by decide)) ⟨hc, hs⟩ dX7_isZone_3 h))) h (by rw [hR]; decide) (by rw [hR]; decide)
theorem dX7_isDay_0 : decode cX7_isDay 0 = .ok (.iload_n 0, 1) := by decide +kernel
theorem dX7_isDay_1 : decode cX7_isDay 1 = .ok (.iconst 0, 1) := by decide +kernel
theorem dX7_isDay_2 : decode cX7_isDay 2 = .ok (.bipush 59, 2) := by decide +kernel
theorem dX7_isDay_4 : decode cX7_isDay 4 = .ok (.invokestatic 139, 3) := by decide +kernel
theorem dX7_isDay_7 : decode cX7_isDay 7 = .ok (.ireturn, 1) := by decide +kernel
theorem lk_X7_isDay : LK yX7_isDay cX7_isDay 1 (some .boolean) 1 := ⟨qW_at 1464 (by decide +kernel) rfl, qW_at 78 (by decide +kernel) rfl, by decide, by decide, by decide +kernel⟩
theorem st_X7_isDay : Cond.static yX7_isDay ∈ qW := qW_at 1463 (by decide +kernel) rfl
def F_X7_isDay (its_ : Int32) : QX Int32 :=
  (xb (xb (xp its_) fun v1 => xb (xp (0 : Int32)) fun v2 => xb (xp (59 : Int32)) fun v3 => F_X7_in v1 v2 v3) xz)
set_option maxRecDepth 100000 in
set_option maxHeartbeats 4000000 in
theorem M_X7_isDay (its_ : Int32) : MM yX7_isDay cX7_isDay 1 (some .boolean) 1 22 0 0 encI [.int its_] (F_X7_isDay its_) := by
  refine MM_of (env0 := [(0, .int its_)]) (by decide) (by exact Nat.le_of_ble_eq_true rfl) (by rfl) (fun k mm res X C hR hN hr hname h => ?_)
  have X : CX k cX7_isDay RX7 := X
  have hT : TH k (fun e m' => res = (.error e, m')) := TH_of C
  have htr := C.2.2.2.1
  unfold F_X7_isDay at h
  exact SB_go (T := fun e m' => res = (.error e, m')) (RET := fun v m' => res = (.ok v, m')) (SB_retZ X C hr dX7_isDay_7 (XE_3 (pB := pI) wI wI (L_iload_n (x := its_) 0 X dX7_isDay_0 rfl rfl) (L_iconst (v := 0) X dX7_isDay_1 (by decide)) (L_bipush (v := (59)) X dX7_isDay_2 (by decide)) (fun v0 v1 v2 st mm a b hd hc hs h => g_callS (st := st) X hT htr (M_X7_in v0 v1 v2) lk_X7_in st_X7_in ml_X7_139 rfl (by rw [hR]; exact ⟨Nat.le_of_ble_eq_true rfl, Nat.le_of_ble_eq_true rfl⟩) (Nat.le_trans hd (by decide)) ⟨hc, hs⟩ dX7_isDay_4 h))) h (by rw [hR]; decide) (by rw [hR]; decide)
theorem dX7_isMeeting_0 : decode cX7_isMeeting 0 = .ok (.iload_n 1, 1) := by decide +kernel
theorem dX7_isMeeting_1 : decode cX7_isMeeting 1 = .ok (.iconst 0, 1) := by decide +kernel
theorem dX7_isMeeting_2 : decode cX7_isMeeting 2 = .ok (.aload_n 0, 1) := by decide +kernel
theorem dX7_isMeeting_3 : decode cX7_isMeeting 3 = .ok (.getfield 143, 3) := by decide +kernel
theorem dX7_isMeeting_6 : decode cX7_isMeeting 6 = .ok (.iconst 1, 1) := by decide +kernel
theorem dX7_isMeeting_7 : decode cX7_isMeeting 7 = .ok (.isub, 1) := by decide +kernel
theorem dX7_isMeeting_8 : decode cX7_isMeeting 8 = .ok (.invokestatic 139, 3) := by decide +kernel
theorem dX7_isMeeting_11 : decode cX7_isMeeting 11 = .ok (.ireturn, 1) := by decide +kernel
theorem lk_X7_isMeeting : LK yX7_isMeeting cX7_isMeeting 2 (some .boolean) 1 := ⟨qW_at 1528 (by decide +kernel) rfl, qW_at 78 (by decide +kernel) rfl, by decide, by decide, by decide +kernel⟩
theorem im_X7_isMeeting : Cond.instanceMethod yX7_isMeeting ∈ qW := qW_at 1527 (by decide +kernel) rfl
theorem se_X7_isMeeting : Cond.selects RX7 yX7_isMeeting yX7_isMeeting ∈ qW := qW_at 37 (by decide +kernel) rfl
def F_X7_isMeeting (this : Nat) (its_ : Int32) : QX Int32 :=
  (xb (xb (xp its_) fun v4 => xb (xp (0 : Int32)) fun v5 => xb (xb (xb (xp (some this)) fun v1 => xgi 8 3 v1) fun v2 => xb (xp (1 : Int32)) fun v3 => (xp (v2 - v3))) fun v6 => F_X7_in v4 v5 v6) xz)
set_option maxRecDepth 100000 in
set_option maxHeartbeats 4000000 in
theorem M_X7_isMeeting (this : Nat) (its_ : Int32) : MM yX7_isMeeting cX7_isMeeting 2 (some .boolean) 1 22 0 0 encI [.ref this, .int its_] (F_X7_isMeeting this its_) := by
  refine MM_of (env0 := [(0, va_rf (some this)), (1, .int its_)]) (by decide) (by exact Nat.le_of_ble_eq_true rfl) (by rfl) (fun k mm res X C hR hN hr hname h => ?_)
  have X : CX k cX7_isMeeting RX7 := X
  have hT : TH k (fun e m' => res = (.error e, m')) := TH_of C
  have htr := C.2.2.2.1
  unfold F_X7_isMeeting at h
  exact SB_go (T := fun e m' => res = (.error e, m')) (RET := fun v m' => res = (.ok v, m')) (SB_retZ X C hr dX7_isMeeting_11 (XE_3 (pB := pI) wI wI (L_iload_n (x := its_) 1 X dX7_isMeeting_0 rfl rfl) (L_iconst (v := 0) X dX7_isMeeting_1 (by decide)) (XE_2 wI (XE_1 (L_aload_n (r := (some this)) 0 X dX7_isMeeting_2 rfl rfl) (O_gi (c := 8) (j := 3) X rfl inW7 (by decide) fl_X7_143 rfl dX7_isMeeting_3)) (L_iconst (v := 1) X dX7_isMeeting_6 (by decide)) (O_isub X dX7_isMeeting_7)) (fun v0 v1 v2 st mm a b hd hc hs h => g_callS (st := st) X hT htr (M_X7_in v0 v1 v2) lk_X7_in st_X7_in ml_X7_139 rfl (by rw [hR]; exact ⟨Nat.le_of_ble_eq_true rfl, Nat.le_of_ble_eq_true rfl⟩) (Nat.le_trans hd (by decide)) ⟨hc, hs⟩ dX7_isMeeting_8 h))) h (by rw [hR]; decide) (by rw [hR]; decide)
theorem dX7_isMessage_0 : decode cX7_isMessage 0 = .ok (.iload_n 1, 1) := by decide +kernel
theorem dX7_isMessage_1 : decode cX7_isMessage 1 = .ok (.iconst 0, 1) := by decide +kernel
theorem dX7_isMessage_2 : decode cX7_isMessage 2 = .ok (.aload_n 0, 1) := by decide +kernel
theorem dX7_isMessage_3 : decode cX7_isMessage 3 = .ok (.getfield 146, 3) := by decide +kernel
theorem dX7_isMessage_6 : decode cX7_isMessage 6 = .ok (.iconst 1, 1) := by decide +kernel
theorem dX7_isMessage_7 : decode cX7_isMessage 7 = .ok (.isub, 1) := by decide +kernel
theorem dX7_isMessage_8 : decode cX7_isMessage 8 = .ok (.invokestatic 139, 3) := by decide +kernel
theorem dX7_isMessage_11 : decode cX7_isMessage 11 = .ok (.ireturn, 1) := by decide +kernel
theorem lk_X7_isMessage : LK yX7_isMessage cX7_isMessage 2 (some .boolean) 1 := ⟨qW_at 1636 (by decide +kernel) rfl, qW_at 78 (by decide +kernel) rfl, by decide, by decide, by decide +kernel⟩
theorem im_X7_isMessage : Cond.instanceMethod yX7_isMessage ∈ qW := qW_at 1635 (by decide +kernel) rfl
theorem se_X7_isMessage : Cond.selects RX7 yX7_isMessage yX7_isMessage ∈ qW := qW_at 52 (by decide +kernel) rfl
def F_X7_isMessage (this : Nat) (its_ : Int32) : QX Int32 :=
  (xb (xb (xp its_) fun v4 => xb (xp (0 : Int32)) fun v5 => xb (xb (xb (xp (some this)) fun v1 => xgi 8 29 v1) fun v2 => xb (xp (1 : Int32)) fun v3 => (xp (v2 - v3))) fun v6 => F_X7_in v4 v5 v6) xz)
set_option maxRecDepth 100000 in
set_option maxHeartbeats 4000000 in
theorem M_X7_isMessage (this : Nat) (its_ : Int32) : MM yX7_isMessage cX7_isMessage 2 (some .boolean) 1 22 0 0 encI [.ref this, .int its_] (F_X7_isMessage this its_) := by
  refine MM_of (env0 := [(0, va_rf (some this)), (1, .int its_)]) (by decide) (by exact Nat.le_of_ble_eq_true rfl) (by rfl) (fun k mm res X C hR hN hr hname h => ?_)
  have X : CX k cX7_isMessage RX7 := X
  have hT : TH k (fun e m' => res = (.error e, m')) := TH_of C
  have htr := C.2.2.2.1
  unfold F_X7_isMessage at h
  exact SB_go (T := fun e m' => res = (.error e, m')) (RET := fun v m' => res = (.ok v, m')) (SB_retZ X C hr dX7_isMessage_11 (XE_3 (pB := pI) wI wI (L_iload_n (x := its_) 1 X dX7_isMessage_0 rfl rfl) (L_iconst (v := 0) X dX7_isMessage_1 (by decide)) (XE_2 wI (XE_1 (L_aload_n (r := (some this)) 0 X dX7_isMessage_2 rfl rfl) (O_gi (c := 8) (j := 29) X rfl inW7 (by decide) fl_X7_146 rfl dX7_isMessage_3)) (L_iconst (v := 1) X dX7_isMessage_6 (by decide)) (O_isub X dX7_isMessage_7)) (fun v0 v1 v2 st mm a b hd hc hs h => g_callS (st := st) X hT htr (M_X7_in v0 v1 v2) lk_X7_in st_X7_in ml_X7_139 rfl (by rw [hR]; exact ⟨Nat.le_of_ble_eq_true rfl, Nat.le_of_ble_eq_true rfl⟩) (Nat.le_trans hd (by decide)) ⟨hc, hs⟩ dX7_isMessage_8 h))) h (by rw [hR]; decide) (by rw [hR]; decide)
theorem dX7_at_0 : decode cX7_at 0 = .ok (.bipush 8, 2) := by decide +kernel
theorem dX7_at_2 : decode cX7_at 2 = .ok (.iload_n 0, 1) := by decide +kernel
theorem dX7_at_3 : decode cX7_at 3 = .ok (.imul, 1) := by decide +kernel
theorem dX7_at_4 : decode cX7_at 4 = .ok (.iload_n 1, 1) := by decide +kernel
theorem dX7_at_5 : decode cX7_at 5 = .ok (.iadd, 1) := by decide +kernel
theorem dX7_at_6 : decode cX7_at 6 = .ok (.ireturn, 1) := by decide +kernel
theorem lk_X7_at : LK yX7_at cX7_at 2 (some .int) 2 := ⟨qW_at 1516 (by decide +kernel) rfl, qW_at 78 (by decide +kernel) rfl, by decide, by decide, by decide +kernel⟩
theorem st_X7_at : Cond.static yX7_at ∈ qW := qW_at 1515 (by decide +kernel) rfl
def F_X7_at (person_ : Int32) (its_ : Int32) : QX Int32 :=
  (xb (xb (xp (8 : Int32)) fun v1 => xb (xp person_) fun v2 => (xp (v1 * v2))) fun v3 => xb (xp its_) fun v4 => (xp (v3 + v4)))
set_option maxRecDepth 100000 in
set_option maxHeartbeats 4000000 in
theorem M_X7_at (person_ : Int32) (its_ : Int32) : MM yX7_at cX7_at 2 (some .int) 0 0 0 0 encI [.int person_, .int its_] (F_X7_at person_ its_) := by
  refine MM_of (env0 := [(0, .int person_), (1, .int its_)]) (by decide) (by exact Nat.le_of_ble_eq_true rfl) (by rfl) (fun k mm res X C hR hN hr hname h => ?_)
  have X : CX k cX7_at RX7 := X
  have hT : TH k (fun e m' => res = (.error e, m')) := TH_of C
  have htr := C.2.2.2.1
  unfold F_X7_at at h
  exact SB_go (T := fun e m' => res = (.error e, m')) (RET := fun v m' => res = (.ok v, m')) (SB_retI X C hr dX7_at_6 (XE_2 wI (XE_2 wI (L_bipush (v := (8)) X dX7_at_0 (by decide)) (L_iload_n (x := person_) 0 X dX7_at_2 rfl rfl) (O_imul X dX7_at_3)) (L_iload_n (x := its_) 1 X dX7_at_4 rfl rfl) (O_iadd X dX7_at_5))) h (by rw [hR]; decide) (by rw [hR]; decide)
theorem dX7_has_0 : decode cX7_has 0 = .ok (.lload_n 0, 1) := by decide +kernel
theorem dX7_has_1 : decode cX7_has 1 = .ok (.iload_n 2, 1) := by decide +kernel
theorem dX7_has_2 : decode cX7_has 2 = .ok (.lshr, 1) := by decide +kernel
theorem dX7_has_3 : decode cX7_has 3 = .ok (.lconst 1, 1) := by decide +kernel
theorem dX7_has_4 : decode cX7_has 4 = .ok (.land, 1) := by decide +kernel
theorem dX7_has_5 : decode cX7_has 5 = .ok (.lconst 1, 1) := by decide +kernel
theorem dX7_has_6 : decode cX7_has 6 = .ok (.lcmp, 1) := by decide +kernel
theorem dX7_has_7 : decode cX7_has 7 = .ok (.ifCond .ne 7, 3) := by decide +kernel
theorem dX7_has_10 : decode cX7_has 10 = .ok (.iconst 1, 1) := by decide +kernel
theorem dX7_has_11 : decode cX7_has 11 = .ok (.goto 4, 3) := by decide +kernel
theorem dX7_has_14 : decode cX7_has 14 = .ok (.iconst 0, 1) := by decide +kernel
theorem dX7_has_15 : decode cX7_has 15 = .ok (.ireturn, 1) := by decide +kernel
theorem lk_X7_has : LK yX7_has cX7_has 3 (some .boolean) 2 := ⟨qW_at 1509 (by decide +kernel) rfl, qW_at 78 (by decide +kernel) rfl, by decide, by decide, by decide +kernel⟩
theorem st_X7_has : Cond.static yX7_has ∈ qW := qW_at 1508 (by decide +kernel) rfl
def F_X7_has (set_ : Int64) (its_ : Int32) : QX Int32 :=
  (xb (xb (xb (xb (xb (xp set_) fun v1 => xb (xp its_) fun v2 => (xp (v1 >>> (v2.toInt64 &&& 63)))) fun v3 => xb (xp (1 : Int64)) fun v4 => (xp (v3 &&& v4))) fun v5 => xb (xp (1 : Int64)) fun v6 => xp (decide (v5 = v6))) fun v7 => xp (b2i v7)) xz)
set_option maxRecDepth 100000 in
set_option maxHeartbeats 4000000 in
theorem M_X7_has (set_ : Int64) (its_ : Int32) : MM yX7_has cX7_has 3 (some .boolean) 0 0 0 0 encI [.long set_, .int its_] (F_X7_has set_ its_) := by
  refine MM_of (env0 := [(0, .long set_), (2, .int its_)]) (by decide) (by exact Nat.le_of_ble_eq_true rfl) (by rfl) (fun k mm res X C hR hN hr hname h => ?_)
  have X : CX k cX7_has RX7 := X
  have hT : TH k (fun e m' => res = (.error e, m')) := TH_of C
  have htr := C.2.2.2.1
  unfold F_X7_has at h
  exact SB_go (T := fun e m' => res = (.error e, m')) (RET := fun v m' => res = (.ok v, m')) (SB_retZ X C hr dX7_has_15 (XE_b2i (CE_2 wL (XE_2 wL (XE_2 wL (L_lload_n (x := set_) 0 X dX7_has_0 rfl rfl) (L_iload_n (x := its_) 1 X dX7_has_1 rfl rfl) (O_lshr X dX7_has_2)) (L_lconst (v := 1) X dX7_has_3 (by decide)) (O_land X dX7_has_4)) (L_lconst (v := 1) X dX7_has_5 (by decide)) (J_eq_F X dX7_has_6 dX7_has_7 (by decide))) (S_b1 X dX7_has_10 dX7_has_11 (by decide)) (S_b0 X dX7_has_14))) h (by rw [hR]; decide) (by rw [hR]; decide)
theorem dX7_setOffset_0 : decode cX7_setOffset 0 = .ok (.aload_n 0, 1) := by decide +kernel
theorem dX7_setOffset_1 : decode cX7_setOffset 1 = .ok (.iload_n 1, 1) := by decide +kernel
theorem dX7_setOffset_2 : decode cX7_setOffset 2 = .ok (.invokestatic 149, 3) := by decide +kernel
theorem dX7_setOffset_5 : decode cX7_setOffset 5 = .ok (.iload_n 2, 1) := by decide +kernel
theorem dX7_setOffset_6 : decode cX7_setOffset 6 = .ok (.bipush (-12), 2) := by decide +kernel
theorem dX7_setOffset_8 : decode cX7_setOffset 8 = .ok (.bipush 12, 2) := by decide +kernel
theorem dX7_setOffset_10 : decode cX7_setOffset 10 = .ok (.invokestatic 139, 3) := by decide +kernel
theorem dX7_setOffset_13 : decode cX7_setOffset 13 = .ok (.iconst 1, 1) := by decide +kernel
theorem dX7_setOffset_14 : decode cX7_setOffset 14 = .ok (.invokevirtual 153, 3) := by decide +kernel
theorem dX7_setOffset_17 : decode cX7_setOffset 17 = .ok (.ifCond .ne 5, 3) := by decide +kernel
theorem dX7_setOffset_20 : decode cX7_setOffset 20 = .ok (.iconst 0, 1) := by decide +kernel
theorem dX7_setOffset_21 : decode cX7_setOffset 21 = .ok (.ireturn, 1) := by decide +kernel
theorem dX7_setOffset_22 : decode cX7_setOffset 22 = .ok (.aload_n 0, 1) := by decide +kernel
theorem dX7_setOffset_23 : decode cX7_setOffset 23 = .ok (.getfield 7, 3) := by decide +kernel
theorem dX7_setOffset_26 : decode cX7_setOffset 26 = .ok (.iload_n 1, 1) := by decide +kernel
theorem dX7_setOffset_27 : decode cX7_setOffset 27 = .ok (.iaload, 1) := by decide +kernel
theorem dX7_setOffset_28 : decode cX7_setOffset 28 = .ok (.istore_n 3, 1) := by decide +kernel
theorem dX7_setOffset_29 : decode cX7_setOffset 29 = .ok (.aload_n 0, 1) := by decide +kernel
theorem dX7_setOffset_30 : decode cX7_setOffset 30 = .ok (.getfield 7, 3) := by decide +kernel
theorem dX7_setOffset_33 : decode cX7_setOffset 33 = .ok (.iload_n 1, 1) := by decide +kernel
theorem dX7_setOffset_34 : decode cX7_setOffset 34 = .ok (.iload_n 2, 1) := by decide +kernel
theorem dX7_setOffset_35 : decode cX7_setOffset 35 = .ok (.iastore, 1) := by decide +kernel
theorem dX7_setOffset_36 : decode cX7_setOffset 36 = .ok (.iload_n 3, 1) := by decide +kernel
theorem dX7_setOffset_37 : decode cX7_setOffset 37 = .ok (.ireturn, 1) := by decide +kernel
theorem lk_X7_setOffset : LK yX7_setOffset cX7_setOffset 4 (some .int) 2 := ⟨qW_at 1447 (by decide +kernel) rfl, qW_at 78 (by decide +kernel) rfl, by decide, by decide, by decide +kernel⟩
theorem im_X7_setOffset : Cond.instanceMethod yX7_setOffset ∈ qW := qW_at 1445 (by decide +kernel) rfl
theorem se_X7_setOffset : Cond.selects RX7 yX7_setOffset yX7_setOffset ∈ qW := qW_at 1446 (by decide +kernel) rfl
def F_X7_setOffset (this : Nat) (its_ : Int32) (hours_ : Int32) : QX Int32 :=
  (xb (xb (xb (xb (xp (some this)) fun v5 => xb (xb (xp its_) fun v1 => F_X7_isZone v1) fun v6 => xb (xb (xp hours_) fun v2 => xb (xp (-12 : Int32)) fun v3 => xb (xp (12 : Int32)) fun v4 => F_X7_in v2 v3 v4) fun v7 => xb (xp (1 : Int32)) fun v8 => xo 8 v5 fun q => F_X7_goes q v6 v7 v8) fun v9 => xp (decide (¬ v9 = 0))) fun v10 => xp (!v10)) fun v19 => if v19 then (xp (0 : Int32)) else
  (xb (xb (xb (xp (some this)) fun v11 => xgr 8 0 v11) fun v12 => xb (xp its_) fun v13 => xai 0 v12 v13) fun before_14 =>
  (xb (xb (xb (xp (some this)) fun v15 => xgr 8 0 v15) fun v16 => xb (xp its_) fun v17 => xb (xp hours_) fun v18 => xsai v16 v17 v18) fun _ =>
  (xp before_14))))
set_option maxRecDepth 100000 in
set_option maxHeartbeats 4000000 in
theorem M_X7_setOffset (this : Nat) (its_ : Int32) (hours_ : Int32) : MM yX7_setOffset cX7_setOffset 4 (some .int) 2 42 0 0 encI [.ref this, .int its_, .int hours_] (F_X7_setOffset this its_ hours_) := by
  refine MM_of (env0 := [(0, va_rf (some this)), (1, .int its_), (2, .int hours_)]) (by decide) (by exact Nat.le_of_ble_eq_true rfl) (by rfl) (fun k mm res X C hR hN hr hname h => ?_)
  have X : CX k cX7_setOffset RX7 := X
  have hT : TH k (fun e m' => res = (.error e, m')) := TH_of C
  have htr := C.2.2.2.1
  unfold F_X7_setOffset at h
  exact SB_go (T := fun e m' => res = (.error e, m')) (RET := fun v m' => res = (.ok v, m')) (SB_if (CE_not (CE_1 (XE_4 (pB := pI) wR wI wI (L_aload_n (r := (some this)) 0 X dX7_setOffset_0 rfl rfl) (XE_1 (pB := pI)  (L_iload_n (x := its_) 1 X dX7_setOffset_1 rfl rfl) (fun v0 st mm a b hd hc hs h => g_callS (st := st) X hT htr (M_X7_isZone v0) lk_X7_isZone st_X7_isZone ml_X7_149 rfl (by rw [hR]; exact ⟨Nat.le_of_ble_eq_true rfl, Nat.le_of_ble_eq_true rfl⟩) (Nat.le_trans hd (by decide)) ⟨hc, hs⟩ dX7_setOffset_2 h)) (XE_3 (pB := pI) wI wI (L_iload_n (x := hours_) 2 X dX7_setOffset_5 rfl rfl) (L_bipush (v := (-12)) X dX7_setOffset_6 (by decide)) (L_bipush (v := (12)) X dX7_setOffset_8 (by decide)) (fun v0 v1 v2 st mm a b hd hc hs h => g_callS (st := st) X hT htr (M_X7_in v0 v1 v2) lk_X7_in st_X7_in ml_X7_139 rfl (by rw [hR]; exact ⟨Nat.le_of_ble_eq_true rfl, Nat.le_of_ble_eq_true rfl⟩) (Nat.le_trans hd (by decide)) ⟨hc, hs⟩ dX7_setOffset_10 h)) (L_iconst (v := 1) X dX7_setOffset_13 (by decide)) (fun v0 v1 v2 v3 st mm a b hd hc hs h => g_callVo (st := st) (cI := 8) X hT htr rfl (fun q => M_X7_goes q v1 v2 v3) lk_X7_goes im_X7_goes se_X7_goes ml_X7_153 rfl (by rw [hR]; exact ⟨Nat.le_of_ble_eq_true rfl, Nat.le_of_ble_eq_true rfl⟩) (Nat.le_trans hd (by decide)) ⟨hc, hs⟩ dX7_setOffset_14 h)) (Z_ne_T X dX7_setOffset_17 (by decide))))
  (SB_retI X C hr dX7_setOffset_21 (L_iconst (v := 0) X dX7_setOffset_20 (by decide)))
  (SB_let (XE_2 wR (XE_1 (L_aload_n (r := (some this)) 0 X dX7_setOffset_22 rfl rfl) (O_gr (c := 8) (j := 0) X rfl inW7 (by decide) fl_X7_7 rfl dX7_setOffset_23)) (L_iload_n (x := its_) 1 X dX7_setOffset_26 rfl rfl) (O_ai X dX7_setOffset_27)) (S_istore_n (ev := fun before_14 => [(3, .int before_14), (0, va_rf (some this)), (1, .int its_), (2, .int hours_)]) X dX7_setOffset_28 rfl (by rw [hN]; decide) (fun _ => rfl)) fun before_14 =>
  (SB_do (XE_3 wR wI (XE_1 (L_aload_n (r := (some this)) 1 X dX7_setOffset_29 rfl rfl) (O_gr (c := 8) (j := 0) X rfl inW7 (by decide) fl_X7_7 rfl dX7_setOffset_30)) (L_iload_n (x := its_) 2 X dX7_setOffset_33 rfl rfl) (L_iload_n (x := hours_) 3 X dX7_setOffset_34 rfl rfl) (O_sai X dX7_setOffset_35))
  (SB_retI X C hr dX7_setOffset_37 (L_iload_n (x := before_14) 0 X dX7_setOffset_36 rfl rfl))))) h (by rw [hR]; decide) (by rw [hR]; decide)
theorem dX7_setSummer_0 : decode cX7_setSummer 0 = .ok (.aload_n 0, 1) := by decide +kernel
theorem dX7_setSummer_1 : decode cX7_setSummer 1 = .ok (.iload_n 1, 1) := by decide +kernel
theorem dX7_setSummer_2 : decode cX7_setSummer 2 = .ok (.invokestatic 149, 3) := by decide +kernel
theorem dX7_setSummer_5 : decode cX7_setSummer 5 = .ok (.iload_n 2, 1) := by decide +kernel
theorem dX7_setSummer_6 : decode cX7_setSummer 6 = .ok (.iconst (-1), 1) := by decide +kernel
theorem dX7_setSummer_7 : decode cX7_setSummer 7 = .ok (.if_icmp .eq 22, 3) := by decide +kernel
theorem dX7_setSummer_10 : decode cX7_setSummer 10 = .ok (.iload_n 2, 1) := by decide +kernel
theorem dX7_setSummer_11 : decode cX7_setSummer 11 = .ok (.invokestatic 157, 3) := by decide +kernel
theorem dX7_setSummer_14 : decode cX7_setSummer 14 = .ok (.ifCond .eq 19, 3) := by decide +kernel
theorem dX7_setSummer_17 : decode cX7_setSummer 17 = .ok (.iload_n 3, 1) := by decide +kernel
theorem dX7_setSummer_18 : decode cX7_setSummer 18 = .ok (.iload_n 2, 1) := by decide +kernel
theorem dX7_setSummer_19 : decode cX7_setSummer 19 = .ok (.iconst 1, 1) := by decide +kernel
theorem dX7_setSummer_20 : decode cX7_setSummer 20 = .ok (.iadd, 1) := by decide +kernel
theorem dX7_setSummer_21 : decode cX7_setSummer 21 = .ok (.bipush 60, 2) := by decide +kernel
theorem dX7_setSummer_23 : decode cX7_setSummer 23 = .ok (.invokestatic 139, 3) := by decide +kernel
theorem dX7_setSummer_26 : decode cX7_setSummer 26 = .ok (.ifCond .eq 7, 3) := by decide +kernel
theorem dX7_setSummer_29 : decode cX7_setSummer 29 = .ok (.iconst 1, 1) := by decide +kernel
theorem dX7_setSummer_30 : decode cX7_setSummer 30 = .ok (.goto 4, 3) := by decide +kernel
theorem dX7_setSummer_33 : decode cX7_setSummer 33 = .ok (.iconst 0, 1) := by decide +kernel
theorem dX7_setSummer_34 : decode cX7_setSummer 34 = .ok (.iconst 1, 1) := by decide +kernel
theorem dX7_setSummer_35 : decode cX7_setSummer 35 = .ok (.invokevirtual 153, 3) := by decide +kernel
theorem dX7_setSummer_38 : decode cX7_setSummer 38 = .ok (.ifCond .ne 5, 3) := by decide +kernel
theorem dX7_setSummer_41 : decode cX7_setSummer 41 = .ok (.iconst 0, 1) := by decide +kernel
theorem dX7_setSummer_42 : decode cX7_setSummer 42 = .ok (.ireturn, 1) := by decide +kernel
theorem dX7_setSummer_43 : decode cX7_setSummer 43 = .ok (.aload_n 0, 1) := by decide +kernel
theorem dX7_setSummer_44 : decode cX7_setSummer 44 = .ok (.getfield 13, 3) := by decide +kernel
theorem dX7_setSummer_47 : decode cX7_setSummer 47 = .ok (.iload_n 1, 1) := by decide +kernel
theorem dX7_setSummer_48 : decode cX7_setSummer 48 = .ok (.iaload, 1) := by decide +kernel
theorem dX7_setSummer_49 : decode cX7_setSummer 49 = .ok (.istore 4, 2) := by decide +kernel
theorem dX7_setSummer_51 : decode cX7_setSummer 51 = .ok (.aload_n 0, 1) := by decide +kernel
theorem dX7_setSummer_52 : decode cX7_setSummer 52 = .ok (.getfield 13, 3) := by decide +kernel
theorem dX7_setSummer_55 : decode cX7_setSummer 55 = .ok (.iload_n 1, 1) := by decide +kernel
theorem dX7_setSummer_56 : decode cX7_setSummer 56 = .ok (.iload_n 2, 1) := by decide +kernel
theorem dX7_setSummer_57 : decode cX7_setSummer 57 = .ok (.iastore, 1) := by decide +kernel
theorem dX7_setSummer_58 : decode cX7_setSummer 58 = .ok (.aload_n 0, 1) := by decide +kernel
theorem dX7_setSummer_59 : decode cX7_setSummer 59 = .ok (.getfield 16, 3) := by decide +kernel
theorem dX7_setSummer_62 : decode cX7_setSummer 62 = .ok (.iload_n 1, 1) := by decide +kernel
theorem dX7_setSummer_63 : decode cX7_setSummer 63 = .ok (.iload_n 3, 1) := by decide +kernel
theorem dX7_setSummer_64 : decode cX7_setSummer 64 = .ok (.iastore, 1) := by decide +kernel
theorem dX7_setSummer_65 : decode cX7_setSummer 65 = .ok (.iload 4, 2) := by decide +kernel
theorem dX7_setSummer_67 : decode cX7_setSummer 67 = .ok (.ireturn, 1) := by decide +kernel
theorem lk_X7_setSummer : LK yX7_setSummer cX7_setSummer 5 (some .int) 3 := ⟨qW_at 1461 (by decide +kernel) rfl, qW_at 78 (by decide +kernel) rfl, by decide, by decide, by decide +kernel⟩
theorem im_X7_setSummer : Cond.instanceMethod yX7_setSummer ∈ qW := qW_at 1459 (by decide +kernel) rfl
theorem se_X7_setSummer : Cond.selects RX7 yX7_setSummer yX7_setSummer ∈ qW := qW_at 1460 (by decide +kernel) rfl
def F_X7_setSummer (this : Nat) (its_ : Int32) (from_ : Int32) (to_ : Int32) : QX Int32 :=
  (xb (xb (xb (xb (xp (some this)) fun v15 => xb (xb (xp its_) fun v1 => F_X7_isZone v1) fun v16 => xb (xb (xb (xb (xp from_) fun v2 => xb (xp (-1 : Int32)) fun v3 => xp (decide (v2 = v3))) fun v13 => if v13 then xp true else (xb (xb (xb (xp from_) fun v4 => F_X7_isDay v4) fun v5 => xp (decide (¬ v5 = 0))) fun v12 => if v12 then (xb (xb (xp to_) fun v8 => xb (xb (xp from_) fun v6 => xb (xp (1 : Int32)) fun v7 => (xp (v6 + v7))) fun v9 => xb (xp (60 : Int32)) fun v10 => F_X7_in v8 v9 v10) fun v11 => xp (decide (¬ v11 = 0))) else xp false)) fun v14 => xp (b2i v14)) fun v17 => xb (xp (1 : Int32)) fun v18 => xo 8 v15 fun q => F_X7_goes q v16 v17 v18) fun v19 => xp (decide (¬ v19 = 0))) fun v20 => xp (!v20)) fun v33 => if v33 then (xp (0 : Int32)) else
  (xb (xb (xb (xp (some this)) fun v21 => xgr 8 1 v21) fun v22 => xb (xp its_) fun v23 => xai 0 v22 v23) fun before_24 =>
  (xb (xb (xb (xp (some this)) fun v25 => xgr 8 1 v25) fun v26 => xb (xp its_) fun v27 => xb (xp from_) fun v28 => xsai v26 v27 v28) fun _ =>
  (xb (xb (xb (xp (some this)) fun v29 => xgr 8 2 v29) fun v30 => xb (xp its_) fun v31 => xb (xp to_) fun v32 => xsai v30 v31 v32) fun _ =>
  (xp before_24)))))
set_option maxRecDepth 100000 in
set_option maxHeartbeats 4000000 in
theorem M_X7_setSummer (this : Nat) (its_ : Int32) (from_ : Int32) (to_ : Int32) : MM yX7_setSummer cX7_setSummer 5 (some .int) 2 42 0 0 encI [.ref this, .int its_, .int from_, .int to_] (F_X7_setSummer this its_ from_ to_) := by
  refine MM_of (env0 := [(0, va_rf (some this)), (1, .int its_), (2, .int from_), (3, .int to_)]) (by decide) (by exact Nat.le_of_ble_eq_true rfl) (by rfl) (fun k mm res X C hR hN hr hname h => ?_)
  have X : CX k cX7_setSummer RX7 := X
  have hT : TH k (fun e m' => res = (.error e, m')) := TH_of C
  have htr := C.2.2.2.1
  unfold F_X7_setSummer at h
  exact SB_go (T := fun e m' => res = (.error e, m')) (RET := fun v m' => res = (.ok v, m')) (SB_if (CE_not (CE_1 (XE_4 (pB := pI) wR wI wI (L_aload_n (r := (some this)) 0 X dX7_setSummer_0 rfl rfl) (XE_1 (pB := pI)  (L_iload_n (x := its_) 1 X dX7_setSummer_1 rfl rfl) (fun v0 st mm a b hd hc hs h => g_callS (st := st) X hT htr (M_X7_isZone v0) lk_X7_isZone st_X7_isZone ml_X7_149 rfl (by rw [hR]; exact ⟨Nat.le_of_ble_eq_true rfl, Nat.le_of_ble_eq_true rfl⟩) (Nat.le_trans hd (by decide)) ⟨hc, hs⟩ dX7_setSummer_2 h)) (XE_b2i (CE_or (CE_2 wI (L_iload_n (x := from_) 2 X dX7_setSummer_5 rfl rfl) (L_iconst (v := (-1)) X dX7_setSummer_6 (by decide)) (C_eq_T X dX7_setSummer_7 (by decide))) (CE_and (CE_1 (XE_1 (pB := pI)  (L_iload_n (x := from_) 2 X dX7_setSummer_10 rfl rfl) (fun v0 st mm a b hd hc hs h => g_callS (st := st) X hT htr (M_X7_isDay v0) lk_X7_isDay st_X7_isDay ml_X7_157 rfl (by rw [hR]; exact ⟨Nat.le_of_ble_eq_true rfl, Nat.le_of_ble_eq_true rfl⟩) (Nat.le_trans hd (by decide)) ⟨hc, hs⟩ dX7_setSummer_11 h)) (Z_ne_F X dX7_setSummer_14 (by decide))) (CE_1 (XE_3 (pB := pI) wI wI (L_iload_n (x := to_) 3 X dX7_setSummer_17 rfl rfl) (XE_2 wI (L_iload_n (x := from_) 2 X dX7_setSummer_18 rfl rfl) (L_iconst (v := 1) X dX7_setSummer_19 (by decide)) (O_iadd X dX7_setSummer_20)) (L_bipush (v := (60)) X dX7_setSummer_21 (by decide)) (fun v0 v1 v2 st mm a b hd hc hs h => g_callS (st := st) X hT htr (M_X7_in v0 v1 v2) lk_X7_in st_X7_in ml_X7_139 rfl (by rw [hR]; exact ⟨Nat.le_of_ble_eq_true rfl, Nat.le_of_ble_eq_true rfl⟩) (Nat.le_trans hd (by decide)) ⟨hc, hs⟩ dX7_setSummer_23 h)) (Z_ne_F X dX7_setSummer_26 (by decide))))) (S_b1 X dX7_setSummer_29 dX7_setSummer_30 (by decide)) (S_b0 X dX7_setSummer_33)) (L_iconst (v := 1) X dX7_setSummer_34 (by decide)) (fun v0 v1 v2 v3 st mm a b hd hc hs h => g_callVo (st := st) (cI := 8) X hT htr rfl (fun q => M_X7_goes q v1 v2 v3) lk_X7_goes im_X7_goes se_X7_goes ml_X7_153 rfl (by rw [hR]; exact ⟨Nat.le_of_ble_eq_true rfl, Nat.le_of_ble_eq_true rfl⟩) (Nat.le_trans hd (by decide)) ⟨hc, hs⟩ dX7_setSummer_35 h)) (Z_ne_T X dX7_setSummer_38 (by decide))))
  (SB_retI X C hr dX7_setSummer_42 (L_iconst (v := 0) X dX7_setSummer_41 (by decide)))
  (SB_let (XE_2 wR (XE_1 (L_aload_n (r := (some this)) 0 X dX7_setSummer_43 rfl rfl) (O_gr (c := 8) (j := 1) X rfl inW7 (by decide) fl_X7_13 rfl dX7_setSummer_44)) (L_iload_n (x := its_) 1 X dX7_setSummer_47 rfl rfl) (O_ai X dX7_setSummer_48)) (S_istore (ev := fun before_24 => [(4, .int before_24), (0, va_rf (some this)), (1, .int its_), (2, .int from_), (3, .int to_)]) X dX7_setSummer_49 (by rw [hN]; decide) (fun _ => rfl)) fun before_24 =>
  (SB_do (XE_3 wR wI (XE_1 (L_aload_n (r := (some this)) 1 X dX7_setSummer_51 rfl rfl) (O_gr (c := 8) (j := 1) X rfl inW7 (by decide) fl_X7_13 rfl dX7_setSummer_52)) (L_iload_n (x := its_) 2 X dX7_setSummer_55 rfl rfl) (L_iload_n (x := from_) 3 X dX7_setSummer_56 rfl rfl) (O_sai X dX7_setSummer_57))
  (SB_do (XE_3 wR wI (XE_1 (L_aload_n (r := (some this)) 1 X dX7_setSummer_58 rfl rfl) (O_gr (c := 8) (j := 2) X rfl inW7 (by decide) fl_X7_16 rfl dX7_setSummer_59)) (L_iload_n (x := its_) 2 X dX7_setSummer_62 rfl rfl) (L_iload_n (x := to_) 4 X dX7_setSummer_63 rfl rfl) (O_sai X dX7_setSummer_64))
  (SB_retI X C hr dX7_setSummer_67 (L_iload (x := before_24) 0 X dX7_setSummer_65 rfl)))))) h (by rw [hR]; decide) (by rw [hR]; decide)
theorem dX7_isSummer_0 : decode cX7_isSummer 0 = .ok (.aload_n 0, 1) := by decide +kernel
theorem dX7_isSummer_1 : decode cX7_isSummer 1 = .ok (.getfield 13, 3) := by decide +kernel
theorem dX7_isSummer_4 : decode cX7_isSummer 4 = .ok (.iload_n 1, 1) := by decide +kernel
theorem dX7_isSummer_5 : decode cX7_isSummer 5 = .ok (.iaload, 1) := by decide +kernel
theorem dX7_isSummer_6 : decode cX7_isSummer 6 = .ok (.iconst (-1), 1) := by decide +kernel
theorem dX7_isSummer_7 : decode cX7_isSummer 7 = .ok (.if_icmp .eq 43, 3) := by decide +kernel
theorem dX7_isSummer_10 : decode cX7_isSummer 10 = .ok (.iload_n 2, 1) := by decide +kernel
theorem dX7_isSummer_11 : decode cX7_isSummer 11 = .ok (.aload_n 0, 1) := by decide +kernel
theorem dX7_isSummer_12 : decode cX7_isSummer 12 = .ok (.getfield 7, 3) := by decide +kernel
theorem dX7_isSummer_15 : decode cX7_isSummer 15 = .ok (.iload_n 1, 1) := by decide +kernel
theorem dX7_isSummer_16 : decode cX7_isSummer 16 = .ok (.iaload, 1) := by decide +kernel
theorem dX7_isSummer_17 : decode cX7_isSummer 17 = .ok (.iadd, 1) := by decide +kernel
theorem dX7_isSummer_18 : decode cX7_isSummer 18 = .ok (.bipush 24, 2) := by decide +kernel
theorem dX7_isSummer_20 : decode cX7_isSummer 20 = .ok (.aload_n 0, 1) := by decide +kernel
theorem dX7_isSummer_21 : decode cX7_isSummer 21 = .ok (.getfield 13, 3) := by decide +kernel
theorem dX7_isSummer_24 : decode cX7_isSummer 24 = .ok (.iload_n 1, 1) := by decide +kernel
theorem dX7_isSummer_25 : decode cX7_isSummer 25 = .ok (.iaload, 1) := by decide +kernel
theorem dX7_isSummer_26 : decode cX7_isSummer 26 = .ok (.imul, 1) := by decide +kernel
theorem dX7_isSummer_27 : decode cX7_isSummer 27 = .ok (.iconst 2, 1) := by decide +kernel
theorem dX7_isSummer_28 : decode cX7_isSummer 28 = .ok (.iadd, 1) := by decide +kernel
theorem dX7_isSummer_29 : decode cX7_isSummer 29 = .ok (.bipush 24, 2) := by decide +kernel
theorem dX7_isSummer_31 : decode cX7_isSummer 31 = .ok (.aload_n 0, 1) := by decide +kernel
theorem dX7_isSummer_32 : decode cX7_isSummer 32 = .ok (.getfield 16, 3) := by decide +kernel
theorem dX7_isSummer_35 : decode cX7_isSummer 35 = .ok (.iload_n 1, 1) := by decide +kernel
theorem dX7_isSummer_36 : decode cX7_isSummer 36 = .ok (.iaload, 1) := by decide +kernel
theorem dX7_isSummer_37 : decode cX7_isSummer 37 = .ok (.imul, 1) := by decide +kernel
theorem dX7_isSummer_38 : decode cX7_isSummer 38 = .ok (.iconst 1, 1) := by decide +kernel
theorem dX7_isSummer_39 : decode cX7_isSummer 39 = .ok (.iadd, 1) := by decide +kernel
theorem dX7_isSummer_40 : decode cX7_isSummer 40 = .ok (.invokestatic 139, 3) := by decide +kernel
theorem dX7_isSummer_43 : decode cX7_isSummer 43 = .ok (.ifCond .eq 7, 3) := by decide +kernel
theorem dX7_isSummer_46 : decode cX7_isSummer 46 = .ok (.iconst 1, 1) := by decide +kernel
theorem dX7_isSummer_47 : decode cX7_isSummer 47 = .ok (.goto 4, 3) := by decide +kernel
theorem dX7_isSummer_50 : decode cX7_isSummer 50 = .ok (.iconst 0, 1) := by decide +kernel
theorem dX7_isSummer_51 : decode cX7_isSummer 51 = .ok (.ireturn, 1) := by decide +kernel
theorem lk_X7_isSummer : LK yX7_isSummer cX7_isSummer 3 (some .boolean) 2 := ⟨qW_at 1476 (by decide +kernel) rfl, qW_at 78 (by decide +kernel) rfl, by decide, by decide, by decide +kernel⟩
theorem im_X7_isSummer : Cond.instanceMethod yX7_isSummer ∈ qW := qW_at 1475 (by decide +kernel) rfl
theorem se_X7_isSummer : Cond.selects RX7 yX7_isSummer yX7_isSummer ∈ qW := qW_at 30 (by decide +kernel) rfl
def F_X7_isSummer (this : Nat) (its_ : Int32) (when_ : Int32) : QX Int32 :=
  (xb (xb (xb (xb (xb (xb (xp (some this)) fun v1 => xgr 8 1 v1) fun v2 => xb (xp its_) fun v3 => xai 0 v2 v3) fun v4 => xb (xp (-1 : Int32)) fun v5 => xp (decide (¬ v4 = v5))) fun v29 => if v29 then (xb (xb (xb (xp when_) fun v9 => xb (xb (xb (xp (some this)) fun v6 => xgr 8 0 v6) fun v7 => xb (xp its_) fun v8 => xai 0 v7 v8) fun v10 => (xp (v9 + v10))) fun v25 => xb (xb (xb (xp (24 : Int32)) fun v14 => xb (xb (xb (xp (some this)) fun v11 => xgr 8 1 v11) fun v12 => xb (xp its_) fun v13 => xai 0 v12 v13) fun v15 => (xp (v14 * v15))) fun v16 => xb (xp (2 : Int32)) fun v17 => (xp (v16 + v17))) fun v26 => xb (xb (xb (xp (24 : Int32)) fun v21 => xb (xb (xb (xp (some this)) fun v18 => xgr 8 2 v18) fun v19 => xb (xp its_) fun v20 => xai 0 v19 v20) fun v22 => (xp (v21 * v22))) fun v23 => xb (xp (1 : Int32)) fun v24 => (xp (v23 + v24))) fun v27 => F_X7_in v25 v26 v27) fun v28 => xp (decide (¬ v28 = 0))) else xp false) fun v30 => xp (b2i v30)) xz)
set_option maxRecDepth 100000 in
set_option maxHeartbeats 4000000 in
theorem M_X7_isSummer (this : Nat) (its_ : Int32) (when_ : Int32) : MM yX7_isSummer cX7_isSummer 3 (some .boolean) 1 22 0 0 encI [.ref this, .int its_, .int when_] (F_X7_isSummer this its_ when_) := by
  refine MM_of (env0 := [(0, va_rf (some this)), (1, .int its_), (2, .int when_)]) (by decide) (by exact Nat.le_of_ble_eq_true rfl) (by rfl) (fun k mm res X C hR hN hr hname h => ?_)
  have X : CX k cX7_isSummer RX7 := X
  have hT : TH k (fun e m' => res = (.error e, m')) := TH_of C
  have htr := C.2.2.2.1
  unfold F_X7_isSummer at h
  exact SB_go (T := fun e m' => res = (.error e, m')) (RET := fun v m' => res = (.ok v, m')) (SB_retZ X C hr dX7_isSummer_51 (XE_b2i (CE_and (CE_2 wI (XE_2 wR (XE_1 (L_aload_n (r := (some this)) 0 X dX7_isSummer_0 rfl rfl) (O_gr (c := 8) (j := 1) X rfl inW7 (by decide) fl_X7_13 rfl dX7_isSummer_1)) (L_iload_n (x := its_) 1 X dX7_isSummer_4 rfl rfl) (O_ai X dX7_isSummer_5)) (L_iconst (v := (-1)) X dX7_isSummer_6 (by decide)) (C_ne_F X dX7_isSummer_7 (by decide))) (CE_1 (XE_3 (pB := pI) wI wI (XE_2 wI (L_iload_n (x := when_) 2 X dX7_isSummer_10 rfl rfl) (XE_2 wR (XE_1 (L_aload_n (r := (some this)) 0 X dX7_isSummer_11 rfl rfl) (O_gr (c := 8) (j := 0) X rfl inW7 (by decide) fl_X7_7 rfl dX7_isSummer_12)) (L_iload_n (x := its_) 1 X dX7_isSummer_15 rfl rfl) (O_ai X dX7_isSummer_16)) (O_iadd X dX7_isSummer_17)) (XE_2 wI (XE_2 wI (L_bipush (v := (24)) X dX7_isSummer_18 (by decide)) (XE_2 wR (XE_1 (L_aload_n (r := (some this)) 0 X dX7_isSummer_20 rfl rfl) (O_gr (c := 8) (j := 1) X rfl inW7 (by decide) fl_X7_13 rfl dX7_isSummer_21)) (L_iload_n (x := its_) 1 X dX7_isSummer_24 rfl rfl) (O_ai X dX7_isSummer_25)) (O_imul X dX7_isSummer_26)) (L_iconst (v := 2) X dX7_isSummer_27 (by decide)) (O_iadd X dX7_isSummer_28)) (XE_2 wI (XE_2 wI (L_bipush (v := (24)) X dX7_isSummer_29 (by decide)) (XE_2 wR (XE_1 (L_aload_n (r := (some this)) 0 X dX7_isSummer_31 rfl rfl) (O_gr (c := 8) (j := 2) X rfl inW7 (by decide) fl_X7_16 rfl dX7_isSummer_32)) (L_iload_n (x := its_) 1 X dX7_isSummer_35 rfl rfl) (O_ai X dX7_isSummer_36)) (O_imul X dX7_isSummer_37)) (L_iconst (v := 1) X dX7_isSummer_38 (by decide)) (O_iadd X dX7_isSummer_39)) (fun v0 v1 v2 st mm a b hd hc hs h => g_callS (st := st) X hT htr (M_X7_in v0 v1 v2) lk_X7_in st_X7_in ml_X7_139 rfl (by rw [hR]; exact ⟨Nat.le_of_ble_eq_true rfl, Nat.le_of_ble_eq_true rfl⟩) (Nat.le_trans hd (by decide)) ⟨hc, hs⟩ dX7_isSummer_40 h)) (Z_ne_F X dX7_isSummer_43 (by decide)))) (S_b1 X dX7_isSummer_46 dX7_isSummer_47 (by decide)) (S_b0 X dX7_isSummer_50))) h (by rw [hR]; decide) (by rw [hR]; decide)
theorem dX7_localOf_0 : decode cX7_localOf 0 = .ok (.iload_n 2, 1) := by decide +kernel
theorem dX7_localOf_1 : decode cX7_localOf 1 = .ok (.aload_n 0, 1) := by decide +kernel
theorem dX7_localOf_2 : decode cX7_localOf 2 = .ok (.getfield 7, 3) := by decide +kernel
theorem dX7_localOf_5 : decode cX7_localOf 5 = .ok (.iload_n 1, 1) := by decide +kernel
theorem dX7_localOf_6 : decode cX7_localOf 6 = .ok (.iaload, 1) := by decide +kernel
theorem dX7_localOf_7 : decode cX7_localOf 7 = .ok (.iadd, 1) := by decide +kernel
theorem dX7_localOf_8 : decode cX7_localOf 8 = .ok (.aload_n 0, 1) := by decide +kernel
theorem dX7_localOf_9 : decode cX7_localOf 9 = .ok (.iload_n 1, 1) := by decide +kernel
theorem dX7_localOf_10 : decode cX7_localOf 10 = .ok (.iload_n 2, 1) := by decide +kernel
theorem dX7_localOf_11 : decode cX7_localOf 11 = .ok (.invokevirtual 160, 3) := by decide +kernel
theorem dX7_localOf_14 : decode cX7_localOf 14 = .ok (.ifCond .eq 7, 3) := by decide +kernel
theorem dX7_localOf_17 : decode cX7_localOf 17 = .ok (.iconst 1, 1) := by decide +kernel
theorem dX7_localOf_18 : decode cX7_localOf 18 = .ok (.goto 4, 3) := by decide +kernel
theorem dX7_localOf_21 : decode cX7_localOf 21 = .ok (.iconst 0, 1) := by decide +kernel
theorem dX7_localOf_22 : decode cX7_localOf 22 = .ok (.iadd, 1) := by decide +kernel
theorem dX7_localOf_23 : decode cX7_localOf 23 = .ok (.ireturn, 1) := by decide +kernel
theorem lk_X7_localOf : LK yX7_localOf cX7_localOf 3 (some .int) 2 := ⟨qW_at 1484 (by decide +kernel) rfl, qW_at 78 (by decide +kernel) rfl, by decide, by decide, by decide +kernel⟩
theorem im_X7_localOf : Cond.instanceMethod yX7_localOf ∈ qW := qW_at 1483 (by decide +kernel) rfl
theorem se_X7_localOf : Cond.selects RX7 yX7_localOf yX7_localOf ∈ qW := qW_at 31 (by decide +kernel) rfl
def F_X7_localOf (this : Nat) (its_ : Int32) (when_ : Int32) : QX Int32 :=
  (xb (xb (xp when_) fun v4 => xb (xb (xb (xp (some this)) fun v1 => xgr 8 0 v1) fun v2 => xb (xp its_) fun v3 => xai 0 v2 v3) fun v5 => (xp (v4 + v5))) fun v11 => xb (xb (xb (xb (xp (some this)) fun v6 => xb (xp its_) fun v7 => xb (xp when_) fun v8 => xo 8 v6 fun q => F_X7_isSummer q v7 v8) fun v9 => xp (decide (¬ v9 = 0))) fun v10 => if v10 then (xp (1 : Int32)) else (xp (0 : Int32))) fun v12 => (xp (v11 + v12)))
set_option maxRecDepth 100000 in
set_option maxHeartbeats 4000000 in
theorem M_X7_localOf (this : Nat) (its_ : Int32) (when_ : Int32) : MM yX7_localOf cX7_localOf 3 (some .int) 2 44 0 0 encI [.ref this, .int its_, .int when_] (F_X7_localOf this its_ when_) := by
  refine MM_of (env0 := [(0, va_rf (some this)), (1, .int its_), (2, .int when_)]) (by decide) (by exact Nat.le_of_ble_eq_true rfl) (by rfl) (fun k mm res X C hR hN hr hname h => ?_)
  have X : CX k cX7_localOf RX7 := X
  have hT : TH k (fun e m' => res = (.error e, m')) := TH_of C
  have htr := C.2.2.2.1
  unfold F_X7_localOf at h
  exact SB_go (T := fun e m' => res = (.error e, m')) (RET := fun v m' => res = (.ok v, m')) (SB_retI X C hr dX7_localOf_23 (XE_2 wI (XE_2 wI (L_iload_n (x := when_) 2 X dX7_localOf_0 rfl rfl) (XE_2 wR (XE_1 (L_aload_n (r := (some this)) 0 X dX7_localOf_1 rfl rfl) (O_gr (c := 8) (j := 0) X rfl inW7 (by decide) fl_X7_7 rfl dX7_localOf_2)) (L_iload_n (x := its_) 1 X dX7_localOf_5 rfl rfl) (O_ai X dX7_localOf_6)) (O_iadd X dX7_localOf_7)) (XE_tern (CE_1 (XE_3 (pB := pI) wR wI (L_aload_n (r := (some this)) 0 X dX7_localOf_8 rfl rfl) (L_iload_n (x := its_) 1 X dX7_localOf_9 rfl rfl) (L_iload_n (x := when_) 2 X dX7_localOf_10 rfl rfl) (fun v0 v1 v2 st mm a b hd hc hs h => g_callVo (st := st) (cI := 8) X hT htr rfl (fun q => M_X7_isSummer q v1 v2) lk_X7_isSummer im_X7_isSummer se_X7_isSummer ml_X7_160 rfl (by rw [hR]; exact ⟨Nat.le_of_ble_eq_true rfl, Nat.le_of_ble_eq_true rfl⟩) (Nat.le_trans hd (by decide)) ⟨hc, hs⟩ dX7_localOf_11 h)) (Z_ne_F X dX7_localOf_14 (by decide))) (L_iconst (v := 1) X dX7_localOf_17 (by decide)) (S_goto X dX7_localOf_18 (by decide)) (L_iconst (v := 0) X dX7_localOf_21 (by decide))) (O_iadd X dX7_localOf_22))) h (by rw [hR]; decide) (by rw [hR]; decide)
theorem dX7_commonOf_0 : decode cX7_commonOf 0 = .ok (.iload_n 2, 1) := by decide +kernel
theorem dX7_commonOf_1 : decode cX7_commonOf 1 = .ok (.aload_n 0, 1) := by decide +kernel
theorem dX7_commonOf_2 : decode cX7_commonOf 2 = .ok (.getfield 7, 3) := by decide +kernel
theorem dX7_commonOf_5 : decode cX7_commonOf 5 = .ok (.iload_n 1, 1) := by decide +kernel
theorem dX7_commonOf_6 : decode cX7_commonOf 6 = .ok (.iaload, 1) := by decide +kernel
theorem dX7_commonOf_7 : decode cX7_commonOf 7 = .ok (.isub, 1) := by decide +kernel
theorem dX7_commonOf_8 : decode cX7_commonOf 8 = .ok (.istore_n 3, 1) := by decide +kernel
theorem dX7_commonOf_9 : decode cX7_commonOf 9 = .ok (.aload_n 0, 1) := by decide +kernel
theorem dX7_commonOf_10 : decode cX7_commonOf 10 = .ok (.iload_n 1, 1) := by decide +kernel
theorem dX7_commonOf_11 : decode cX7_commonOf 11 = .ok (.iload_n 3, 1) := by decide +kernel
theorem dX7_commonOf_12 : decode cX7_commonOf 12 = .ok (.iconst 1, 1) := by decide +kernel
theorem dX7_commonOf_13 : decode cX7_commonOf 13 = .ok (.isub, 1) := by decide +kernel
theorem dX7_commonOf_14 : decode cX7_commonOf 14 = .ok (.invokevirtual 160, 3) := by decide +kernel
theorem dX7_commonOf_17 : decode cX7_commonOf 17 = .ok (.istore 4, 2) := by decide +kernel
theorem dX7_commonOf_19 : decode cX7_commonOf 19 = .ok (.iload 4, 2) := by decide +kernel
theorem dX7_commonOf_21 : decode cX7_commonOf 21 = .ok (.ifCond .eq 9, 3) := by decide +kernel
theorem dX7_commonOf_24 : decode cX7_commonOf 24 = .ok (.iload_n 3, 1) := by decide +kernel
theorem dX7_commonOf_25 : decode cX7_commonOf 25 = .ok (.iconst 1, 1) := by decide +kernel
theorem dX7_commonOf_26 : decode cX7_commonOf 26 = .ok (.isub, 1) := by decide +kernel
theorem dX7_commonOf_27 : decode cX7_commonOf 27 = .ok (.goto 4, 3) := by decide +kernel
theorem dX7_commonOf_30 : decode cX7_commonOf 30 = .ok (.iload_n 3, 1) := by decide +kernel
theorem dX7_commonOf_31 : decode cX7_commonOf 31 = .ok (.ireturn, 1) := by decide +kernel
theorem lk_X7_commonOf : LK yX7_commonOf cX7_commonOf 5 (some .int) 2 := ⟨qW_at 1472 (by decide +kernel) rfl, qW_at 78 (by decide +kernel) rfl, by decide, by decide, by decide +kernel⟩
theorem im_X7_commonOf : Cond.instanceMethod yX7_commonOf ∈ qW := qW_at 1471 (by decide +kernel) rfl
theorem se_X7_commonOf : Cond.selects RX7 yX7_commonOf yX7_commonOf ∈ qW := qW_at 29 (by decide +kernel) rfl
def F_X7_commonOf (this : Nat) (its_ : Int32) (clock_ : Int32) : QX Int32 :=
  (xb (xb (xp clock_) fun v4 => xb (xb (xb (xp (some this)) fun v1 => xgr 8 0 v1) fun v2 => xb (xp its_) fun v3 => xai 0 v2 v3) fun v5 => (xp (v4 - v5))) fun when_6 =>
  (xb (xb (xp (some this)) fun v9 => xb (xp its_) fun v10 => xb (xb (xp when_6) fun v7 => xb (xp (1 : Int32)) fun v8 => (xp (v7 - v8))) fun v11 => xo 8 v9 fun q => F_X7_isSummer q v10 v11) fun early_12 =>
  (xb (xb (xp early_12) fun v13 => xp (decide (¬ v13 = 0))) fun v16 => if v16 then (xb (xp when_6) fun v14 => xb (xp (1 : Int32)) fun v15 => (xp (v14 - v15))) else (xp when_6))))
set_option maxRecDepth 100000 in
set_option maxHeartbeats 4000000 in
theorem M_X7_commonOf (this : Nat) (its_ : Int32) (clock_ : Int32) : MM yX7_commonOf cX7_commonOf 5 (some .int) 2 44 0 0 encI [.ref this, .int its_, .int clock_] (F_X7_commonOf this its_ clock_) := by
  refine MM_of (env0 := [(0, va_rf (some this)), (1, .int its_), (2, .int clock_)]) (by decide) (by exact Nat.le_of_ble_eq_true rfl) (by rfl) (fun k mm res X C hR hN hr hname h => ?_)
  have X : CX k cX7_commonOf RX7 := X
  have hT : TH k (fun e m' => res = (.error e, m')) := TH_of C
  have htr := C.2.2.2.1
  unfold F_X7_commonOf at h
  exact SB_go (T := fun e m' => res = (.error e, m')) (RET := fun v m' => res = (.ok v, m')) (SB_let (XE_2 wI (L_iload_n (x := clock_) 2 X dX7_commonOf_0 rfl rfl) (XE_2 wR (XE_1 (L_aload_n (r := (some this)) 0 X dX7_commonOf_1 rfl rfl) (O_gr (c := 8) (j := 0) X rfl inW7 (by decide) fl_X7_7 rfl dX7_commonOf_2)) (L_iload_n (x := its_) 1 X dX7_commonOf_5 rfl rfl) (O_ai X dX7_commonOf_6)) (O_isub X dX7_commonOf_7)) (S_istore_n (ev := fun when_6 => [(3, .int when_6), (0, va_rf (some this)), (1, .int its_), (2, .int clock_)]) X dX7_commonOf_8 rfl (by rw [hN]; decide) (fun _ => rfl)) fun when_6 =>
  (SB_let (XE_3 (pB := pI) wR wI (L_aload_n (r := (some this)) 1 X dX7_commonOf_9 rfl rfl) (L_iload_n (x := its_) 2 X dX7_commonOf_10 rfl rfl) (XE_2 wI (L_iload_n (x := when_6) 0 X dX7_commonOf_11 rfl rfl) (L_iconst (v := 1) X dX7_commonOf_12 (by decide)) (O_isub X dX7_commonOf_13)) (fun v0 v1 v2 st mm a b hd hc hs h => g_callVo (st := st) (cI := 8) X hT htr rfl (fun q => M_X7_isSummer q v1 v2) lk_X7_isSummer im_X7_isSummer se_X7_isSummer ml_X7_160 rfl (by rw [hR]; exact ⟨Nat.le_of_ble_eq_true rfl, Nat.le_of_ble_eq_true rfl⟩) (Nat.le_trans hd (by decide)) ⟨hc, hs⟩ dX7_commonOf_14 h)) (S_istore (ev := fun early_12 => [(4, .int early_12), (3, .int when_6), (0, va_rf (some this)), (1, .int its_), (2, .int clock_)]) X dX7_commonOf_17 (by rw [hN]; decide) (fun _ => rfl)) fun early_12 =>
  (SB_retI X C hr dX7_commonOf_31 (XE_tern (CE_1 (L_iload (x := early_12) 0 X dX7_commonOf_19 rfl) (Z_ne_F X dX7_commonOf_21 (by decide))) (XE_2 wI (L_iload_n (x := when_6) 1 X dX7_commonOf_24 rfl rfl) (L_iconst (v := 1) X dX7_commonOf_25 (by decide)) (O_isub X dX7_commonOf_26)) (S_goto X dX7_commonOf_27 (by decide)) (L_iload_n (x := when_6) 1 X dX7_commonOf_30 rfl rfl))))) h (by rw [hR]; decide) (by rw [hR]; decide)
theorem dX7_common_0 : decode cX7_common 0 = .ok (.aload_n 0, 1) := by decide +kernel
theorem dX7_common_1 : decode cX7_common 1 = .ok (.iload_n 1, 1) := by decide +kernel
theorem dX7_common_2 : decode cX7_common 2 = .ok (.invokestatic 149, 3) := by decide +kernel
theorem dX7_common_5 : decode cX7_common 5 = .ok (.iload_n 2, 1) := by decide +kernel
theorem dX7_common_6 : decode cX7_common 6 = .ok (.bipush (-100), 2) := by decide +kernel
theorem dX7_common_8 : decode cX7_common 8 = .ok (.sipush 2000, 3) := by decide +kernel
theorem dX7_common_11 : decode cX7_common 11 = .ok (.invokestatic 139, 3) := by decide +kernel
theorem dX7_common_14 : decode cX7_common 14 = .ok (.iconst 1, 1) := by decide +kernel
theorem dX7_common_15 : decode cX7_common 15 = .ok (.invokevirtual 153, 3) := by decide +kernel
theorem dX7_common_18 : decode cX7_common 18 = .ok (.ifCond .eq 12, 3) := by decide +kernel
theorem dX7_common_21 : decode cX7_common 21 = .ok (.aload_n 0, 1) := by decide +kernel
theorem dX7_common_22 : decode cX7_common 22 = .ok (.iload_n 1, 1) := by decide +kernel
theorem dX7_common_23 : decode cX7_common 23 = .ok (.iload_n 2, 1) := by decide +kernel
theorem dX7_common_24 : decode cX7_common 24 = .ok (.invokevirtual 164, 3) := by decide +kernel
theorem dX7_common_27 : decode cX7_common 27 = .ok (.goto 4, 3) := by decide +kernel
theorem dX7_common_30 : decode cX7_common 30 = .ok (.iconst 0, 1) := by decide +kernel
theorem dX7_common_31 : decode cX7_common 31 = .ok (.ireturn, 1) := by decide +kernel
theorem lk_X7_common : LK yX7_common cX7_common 3 (some .int) 2 := ⟨qW_at 1468 (by decide +kernel) rfl, qW_at 78 (by decide +kernel) rfl, by decide, by decide, by decide +kernel⟩
theorem im_X7_common : Cond.instanceMethod yX7_common ∈ qW := qW_at 1466 (by decide +kernel) rfl
theorem se_X7_common : Cond.selects RX7 yX7_common yX7_common ∈ qW := qW_at 1467 (by decide +kernel) rfl
def F_X7_common (this : Nat) (its_ : Int32) (clock_ : Int32) : QX Int32 :=
  (xb (xb (xb (xp (some this)) fun v5 => xb (xb (xp its_) fun v1 => F_X7_isZone v1) fun v6 => xb (xb (xp clock_) fun v2 => xb (xp (-100 : Int32)) fun v3 => xb (xp (2000 : Int32)) fun v4 => F_X7_in v2 v3 v4) fun v7 => xb (xp (1 : Int32)) fun v8 => xo 8 v5 fun q => F_X7_goes q v6 v7 v8) fun v9 => xp (decide (¬ v9 = 0))) fun v13 => if v13 then (xb (xp (some this)) fun v10 => xb (xp its_) fun v11 => xb (xp clock_) fun v12 => xo 8 v10 fun q => F_X7_commonOf q v11 v12) else (xp (0 : Int32)))
set_option maxRecDepth 100000 in
set_option maxHeartbeats 4000000 in
theorem M_X7_common (this : Nat) (its_ : Int32) (clock_ : Int32) : MM yX7_common cX7_common 3 (some .int) 3 68 0 0 encI [.ref this, .int its_, .int clock_] (F_X7_common this its_ clock_) := by
  refine MM_of (env0 := [(0, va_rf (some this)), (1, .int its_), (2, .int clock_)]) (by decide) (by exact Nat.le_of_ble_eq_true rfl) (by rfl) (fun k mm res X C hR hN hr hname h => ?_)
  have X : CX k cX7_common RX7 := X
  have hT : TH k (fun e m' => res = (.error e, m')) := TH_of C
  have htr := C.2.2.2.1
  unfold F_X7_common at h
  exact SB_go (T := fun e m' => res = (.error e, m')) (RET := fun v m' => res = (.ok v, m')) (SB_retI X C hr dX7_common_31 (XE_tern (CE_1 (XE_4 (pB := pI) wR wI wI (L_aload_n (r := (some this)) 0 X dX7_common_0 rfl rfl) (XE_1 (pB := pI)  (L_iload_n (x := its_) 1 X dX7_common_1 rfl rfl) (fun v0 st mm a b hd hc hs h => g_callS (st := st) X hT htr (M_X7_isZone v0) lk_X7_isZone st_X7_isZone ml_X7_149 rfl (by rw [hR]; exact ⟨Nat.le_of_ble_eq_true rfl, Nat.le_of_ble_eq_true rfl⟩) (Nat.le_trans hd (by decide)) ⟨hc, hs⟩ dX7_common_2 h)) (XE_3 (pB := pI) wI wI (L_iload_n (x := clock_) 2 X dX7_common_5 rfl rfl) (L_bipush (v := (-100)) X dX7_common_6 (by decide)) (L_sipush (v := (2000)) X dX7_common_8 (by decide)) (fun v0 v1 v2 st mm a b hd hc hs h => g_callS (st := st) X hT htr (M_X7_in v0 v1 v2) lk_X7_in st_X7_in ml_X7_139 rfl (by rw [hR]; exact ⟨Nat.le_of_ble_eq_true rfl, Nat.le_of_ble_eq_true rfl⟩) (Nat.le_trans hd (by decide)) ⟨hc, hs⟩ dX7_common_11 h)) (L_iconst (v := 1) X dX7_common_14 (by decide)) (fun v0 v1 v2 v3 st mm a b hd hc hs h => g_callVo (st := st) (cI := 8) X hT htr rfl (fun q => M_X7_goes q v1 v2 v3) lk_X7_goes im_X7_goes se_X7_goes ml_X7_153 rfl (by rw [hR]; exact ⟨Nat.le_of_ble_eq_true rfl, Nat.le_of_ble_eq_true rfl⟩) (Nat.le_trans hd (by decide)) ⟨hc, hs⟩ dX7_common_15 h)) (Z_ne_F X dX7_common_18 (by decide))) (XE_3 (pB := pI) wR wI (L_aload_n (r := (some this)) 0 X dX7_common_21 rfl rfl) (L_iload_n (x := its_) 1 X dX7_common_22 rfl rfl) (L_iload_n (x := clock_) 2 X dX7_common_23 rfl rfl) (fun v0 v1 v2 st mm a b hd hc hs h => g_callVo (st := st) (cI := 8) X hT htr rfl (fun q => M_X7_commonOf q v1 v2) lk_X7_commonOf im_X7_commonOf se_X7_commonOf ml_X7_164 rfl (by rw [hR]; exact ⟨Nat.le_of_ble_eq_true rfl, Nat.le_of_ble_eq_true rfl⟩) (Nat.le_trans hd (by decide)) ⟨hc, hs⟩ dX7_common_24 h)) (S_goto X dX7_common_27 (by decide)) (L_iconst (v := 0) X dX7_common_30 (by decide)))) h (by rw [hR]; decide) (by rw [hR]; decide)
theorem dX7_local_0 : decode cX7_local 0 = .ok (.aload_n 0, 1) := by decide +kernel
theorem dX7_local_1 : decode cX7_local 1 = .ok (.iload_n 1, 1) := by decide +kernel
theorem dX7_local_2 : decode cX7_local 2 = .ok (.invokestatic 149, 3) := by decide +kernel
theorem dX7_local_5 : decode cX7_local 5 = .ok (.iload_n 2, 1) := by decide +kernel
theorem dX7_local_6 : decode cX7_local 6 = .ok (.bipush (-100), 2) := by decide +kernel
theorem dX7_local_8 : decode cX7_local 8 = .ok (.sipush 2000, 3) := by decide +kernel
theorem dX7_local_11 : decode cX7_local 11 = .ok (.invokestatic 139, 3) := by decide +kernel
theorem dX7_local_14 : decode cX7_local 14 = .ok (.iconst 1, 1) := by decide +kernel
theorem dX7_local_15 : decode cX7_local 15 = .ok (.invokevirtual 153, 3) := by decide +kernel
theorem dX7_local_18 : decode cX7_local 18 = .ok (.ifCond .eq 12, 3) := by decide +kernel
theorem dX7_local_21 : decode cX7_local 21 = .ok (.aload_n 0, 1) := by decide +kernel
theorem dX7_local_22 : decode cX7_local 22 = .ok (.iload_n 1, 1) := by decide +kernel
theorem dX7_local_23 : decode cX7_local 23 = .ok (.iload_n 2, 1) := by decide +kernel
theorem dX7_local_24 : decode cX7_local 24 = .ok (.invokevirtual 168, 3) := by decide +kernel
theorem dX7_local_27 : decode cX7_local 27 = .ok (.goto 4, 3) := by decide +kernel
theorem dX7_local_30 : decode cX7_local 30 = .ok (.iconst 0, 1) := by decide +kernel
theorem dX7_local_31 : decode cX7_local 31 = .ok (.ireturn, 1) := by decide +kernel
theorem lk_X7_local : LK yX7_local cX7_local 3 (some .int) 2 := ⟨qW_at 1480 (by decide +kernel) rfl, qW_at 78 (by decide +kernel) rfl, by decide, by decide, by decide +kernel⟩
theorem im_X7_local : Cond.instanceMethod yX7_local ∈ qW := qW_at 1478 (by decide +kernel) rfl
theorem se_X7_local : Cond.selects RX7 yX7_local yX7_local ∈ qW := qW_at 1479 (by decide +kernel) rfl
def F_X7_local (this : Nat) (its_ : Int32) (when_ : Int32) : QX Int32 :=
  (xb (xb (xb (xp (some this)) fun v5 => xb (xb (xp its_) fun v1 => F_X7_isZone v1) fun v6 => xb (xb (xp when_) fun v2 => xb (xp (-100 : Int32)) fun v3 => xb (xp (2000 : Int32)) fun v4 => F_X7_in v2 v3 v4) fun v7 => xb (xp (1 : Int32)) fun v8 => xo 8 v5 fun q => F_X7_goes q v6 v7 v8) fun v9 => xp (decide (¬ v9 = 0))) fun v13 => if v13 then (xb (xp (some this)) fun v10 => xb (xp its_) fun v11 => xb (xp when_) fun v12 => xo 8 v10 fun q => F_X7_localOf q v11 v12) else (xp (0 : Int32)))
set_option maxRecDepth 100000 in
set_option maxHeartbeats 4000000 in
theorem M_X7_local (this : Nat) (its_ : Int32) (when_ : Int32) : MM yX7_local cX7_local 3 (some .int) 3 66 0 0 encI [.ref this, .int its_, .int when_] (F_X7_local this its_ when_) := by
  refine MM_of (env0 := [(0, va_rf (some this)), (1, .int its_), (2, .int when_)]) (by decide) (by exact Nat.le_of_ble_eq_true rfl) (by rfl) (fun k mm res X C hR hN hr hname h => ?_)
  have X : CX k cX7_local RX7 := X
  have hT : TH k (fun e m' => res = (.error e, m')) := TH_of C
  have htr := C.2.2.2.1
  unfold F_X7_local at h
  exact SB_go (T := fun e m' => res = (.error e, m')) (RET := fun v m' => res = (.ok v, m')) (SB_retI X C hr dX7_local_31 (XE_tern (CE_1 (XE_4 (pB := pI) wR wI wI (L_aload_n (r := (some this)) 0 X dX7_local_0 rfl rfl) (XE_1 (pB := pI)  (L_iload_n (x := its_) 1 X dX7_local_1 rfl rfl) (fun v0 st mm a b hd hc hs h => g_callS (st := st) X hT htr (M_X7_isZone v0) lk_X7_isZone st_X7_isZone ml_X7_149 rfl (by rw [hR]; exact ⟨Nat.le_of_ble_eq_true rfl, Nat.le_of_ble_eq_true rfl⟩) (Nat.le_trans hd (by decide)) ⟨hc, hs⟩ dX7_local_2 h)) (XE_3 (pB := pI) wI wI (L_iload_n (x := when_) 2 X dX7_local_5 rfl rfl) (L_bipush (v := (-100)) X dX7_local_6 (by decide)) (L_sipush (v := (2000)) X dX7_local_8 (by decide)) (fun v0 v1 v2 st mm a b hd hc hs h => g_callS (st := st) X hT htr (M_X7_in v0 v1 v2) lk_X7_in st_X7_in ml_X7_139 rfl (by rw [hR]; exact ⟨Nat.le_of_ble_eq_true rfl, Nat.le_of_ble_eq_true rfl⟩) (Nat.le_trans hd (by decide)) ⟨hc, hs⟩ dX7_local_11 h)) (L_iconst (v := 1) X dX7_local_14 (by decide)) (fun v0 v1 v2 v3 st mm a b hd hc hs h => g_callVo (st := st) (cI := 8) X hT htr rfl (fun q => M_X7_goes q v1 v2 v3) lk_X7_goes im_X7_goes se_X7_goes ml_X7_153 rfl (by rw [hR]; exact ⟨Nat.le_of_ble_eq_true rfl, Nat.le_of_ble_eq_true rfl⟩) (Nat.le_trans hd (by decide)) ⟨hc, hs⟩ dX7_local_15 h)) (Z_ne_F X dX7_local_18 (by decide))) (XE_3 (pB := pI) wR wI (L_aload_n (r := (some this)) 0 X dX7_local_21 rfl rfl) (L_iload_n (x := its_) 1 X dX7_local_22 rfl rfl) (L_iload_n (x := when_) 2 X dX7_local_23 rfl rfl) (fun v0 v1 v2 st mm a b hd hc hs h => g_callVo (st := st) (cI := 8) X hT htr rfl (fun q => M_X7_localOf q v1 v2) lk_X7_localOf im_X7_localOf se_X7_localOf ml_X7_168 rfl (by rw [hR]; exact ⟨Nat.le_of_ble_eq_true rfl, Nat.le_of_ble_eq_true rfl⟩) (Nat.le_trans hd (by decide)) ⟨hc, hs⟩ dX7_local_24 h)) (S_goto X dX7_local_27 (by decide)) (L_iconst (v := 0) X dX7_local_30 (by decide)))) h (by rw [hR]; decide) (by rw [hR]; decide)
theorem dX7_isHere_0 : decode cX7_isHere 0 = .ok (.aload_n 0, 1) := by decide +kernel
theorem dX7_isHere_1 : decode cX7_isHere 1 = .ok (.getfield 19, 3) := by decide +kernel
theorem dX7_isHere_4 : decode cX7_isHere 4 = .ok (.iload_n 2, 1) := by decide +kernel
theorem dX7_isHere_5 : decode cX7_isHere 5 = .ok (.iaload, 1) := by decide +kernel
theorem dX7_isHere_6 : decode cX7_isHere 6 = .ok (.iload_n 1, 1) := by decide +kernel
theorem dX7_isHere_7 : decode cX7_isHere 7 = .ok (.if_icmp .ne 23, 3) := by decide +kernel
theorem dX7_isHere_10 : decode cX7_isHere 10 = .ok (.aload_n 0, 1) := by decide +kernel
theorem dX7_isHere_11 : decode cX7_isHere 11 = .ok (.getfield 62, 3) := by decide +kernel
theorem dX7_isHere_14 : decode cX7_isHere 14 = .ok (.aload_n 0, 1) := by decide +kernel
theorem dX7_isHere_15 : decode cX7_isHere 15 = .ok (.getfield 22, 3) := by decide +kernel
theorem dX7_isHere_18 : decode cX7_isHere 18 = .ok (.iload_n 2, 1) := by decide +kernel
theorem dX7_isHere_19 : decode cX7_isHere 19 = .ok (.iaload, 1) := by decide +kernel
theorem dX7_isHere_20 : decode cX7_isHere 20 = .ok (.baload, 1) := by decide +kernel
theorem dX7_isHere_21 : decode cX7_isHere 21 = .ok (.ifCond .ne 7, 3) := by decide +kernel
theorem dX7_isHere_24 : decode cX7_isHere 24 = .ok (.iconst 1, 1) := by decide +kernel
theorem dX7_isHere_25 : decode cX7_isHere 25 = .ok (.goto 4, 3) := by decide +kernel
theorem dX7_isHere_28 : decode cX7_isHere 28 = .ok (.iconst 0, 1) := by decide +kernel
theorem dX7_isHere_29 : decode cX7_isHere 29 = .ok (.ireturn, 1) := by decide +kernel
theorem dX7_isHere_30 : decode cX7_isHere 30 = .ok (.aload_n 0, 1) := by decide +kernel
theorem dX7_isHere_31 : decode cX7_isHere 31 = .ok (.getfield 81, 3) := by decide +kernel
theorem dX7_isHere_34 : decode cX7_isHere 34 = .ok (.iload_n 1, 1) := by decide +kernel
theorem dX7_isHere_35 : decode cX7_isHere 35 = .ok (.iload_n 2, 1) := by decide +kernel
theorem dX7_isHere_36 : decode cX7_isHere 36 = .ok (.invokestatic 171, 3) := by decide +kernel
theorem dX7_isHere_39 : decode cX7_isHere 39 = .ok (.iaload, 1) := by decide +kernel
theorem dX7_isHere_40 : decode cX7_isHere 40 = .ok (.istore_n 3, 1) := by decide +kernel
theorem dX7_isHere_41 : decode cX7_isHere 41 = .ok (.iload_n 3, 1) := by decide +kernel
theorem dX7_isHere_42 : decode cX7_isHere 42 = .ok (.iconst (-1), 1) := by decide +kernel
theorem dX7_isHere_43 : decode cX7_isHere 43 = .ok (.if_icmp .eq 29, 3) := by decide +kernel
theorem dX7_isHere_46 : decode cX7_isHere 46 = .ok (.aload_n 0, 1) := by decide +kernel
theorem dX7_isHere_47 : decode cX7_isHere 47 = .ok (.getfield 62, 3) := by decide +kernel
theorem dX7_isHere_50 : decode cX7_isHere 50 = .ok (.iload_n 3, 1) := by decide +kernel
theorem dX7_isHere_51 : decode cX7_isHere 51 = .ok (.baload, 1) := by decide +kernel
theorem dX7_isHere_52 : decode cX7_isHere 52 = .ok (.ifCond .ne 20, 3) := by decide +kernel
theorem dX7_isHere_55 : decode cX7_isHere 55 = .ok (.aload_n 0, 1) := by decide +kernel
theorem dX7_isHere_56 : decode cX7_isHere 56 = .ok (.getfield 59, 3) := by decide +kernel
theorem dX7_isHere_59 : decode cX7_isHere 59 = .ok (.iload_n 3, 1) := by decide +kernel
theorem dX7_isHere_60 : decode cX7_isHere 60 = .ok (.iaload, 1) := by decide +kernel
theorem dX7_isHere_61 : decode cX7_isHere 61 = .ok (.iload_n 1, 1) := by decide +kernel
theorem dX7_isHere_62 : decode cX7_isHere 62 = .ok (.ishr, 1) := by decide +kernel
theorem dX7_isHere_63 : decode cX7_isHere 63 = .ok (.iconst 1, 1) := by decide +kernel
theorem dX7_isHere_64 : decode cX7_isHere 64 = .ok (.iand, 1) := by decide +kernel
theorem dX7_isHere_65 : decode cX7_isHere 65 = .ok (.ifCond .ne 7, 3) := by decide +kernel
theorem dX7_isHere_68 : decode cX7_isHere 68 = .ok (.iconst 1, 1) := by decide +kernel
theorem dX7_isHere_69 : decode cX7_isHere 69 = .ok (.goto 4, 3) := by decide +kernel
theorem dX7_isHere_72 : decode cX7_isHere 72 = .ok (.iconst 0, 1) := by decide +kernel
theorem dX7_isHere_73 : decode cX7_isHere 73 = .ok (.ireturn, 1) := by decide +kernel
theorem lk_X7_isHere : LK yX7_isHere cX7_isHere 4 (some .boolean) 2 := ⟨qW_at 1520 (by decide +kernel) rfl, qW_at 78 (by decide +kernel) rfl, by decide, by decide, by decide +kernel⟩
theorem im_X7_isHere : Cond.instanceMethod yX7_isHere ∈ qW := qW_at 1519 (by decide +kernel) rfl
theorem se_X7_isHere : Cond.selects RX7 yX7_isHere yX7_isHere ∈ qW := qW_at 36 (by decide +kernel) rfl
def F_X7_isHere (this : Nat) (person_ : Int32) (its_ : Int32) : QX Int32 :=
  (xb (xb (xb (xb (xp (some this)) fun v1 => xgr 8 4 v1) fun v2 => xb (xp its_) fun v3 => xai 0 v2 v3) fun v4 => xb (xp person_) fun v5 => xp (decide (v4 = v5))) fun v39 => if v39 then (xb (xb (xb (xb (xb (xb (xp (some this)) fun v6 => xgr 8 19 v6) fun v10 => xb (xb (xb (xp (some this)) fun v7 => xgr 8 5 v7) fun v8 => xb (xp its_) fun v9 => xai 0 v8 v9) fun v11 => xai 1 v10 v11) fun v12 => xp (decide (¬ v12 = 0))) fun v13 => xp (!v13)) fun v14 => xp (b2i v14)) xz) else
  (xb (xb (xb (xp (some this)) fun v15 => xgr 8 25 v15) fun v18 => xb (xb (xp person_) fun v16 => xb (xp its_) fun v17 => F_X7_at v16 v17) fun v19 => xai 0 v18 v19) fun own_20 =>
  (xb (xb (xb (xb (xb (xp own_20) fun v21 => xb (xp (-1 : Int32)) fun v22 => xp (decide (¬ v21 = v22))) fun v28 => if v28 then (xb (xb (xb (xb (xp (some this)) fun v23 => xgr 8 19 v23) fun v24 => xb (xp own_20) fun v25 => xai 1 v24 v25) fun v26 => xp (decide (¬ v26 = 0))) fun v27 => xp (!v27)) else xp false) fun v37 => if v37 then (xb (xb (xb (xb (xb (xp (some this)) fun v29 => xgr 8 18 v29) fun v30 => xb (xp own_20) fun v31 => xai 0 v30 v31) fun v32 => xb (xp person_) fun v33 => (xp (v32 >>> (v33 &&& 31)))) fun v34 => xb (xp (1 : Int32)) fun v35 => (xp (v34 &&& v35))) fun v36 => xp (decide (v36 = 0))) else xp false) fun v38 => xp (b2i v38)) xz)))
set_option maxRecDepth 100000 in
set_option maxHeartbeats 4000000 in
theorem M_X7_isHere (this : Nat) (person_ : Int32) (its_ : Int32) : MM yX7_isHere cX7_isHere 4 (some .boolean) 1 21 0 0 encI [.ref this, .int person_, .int its_] (F_X7_isHere this person_ its_) := by
  refine MM_of (env0 := [(0, va_rf (some this)), (1, .int person_), (2, .int its_)]) (by decide) (by exact Nat.le_of_ble_eq_true rfl) (by rfl) (fun k mm res X C hR hN hr hname h => ?_)
  have X : CX k cX7_isHere RX7 := X
  have hT : TH k (fun e m' => res = (.error e, m')) := TH_of C
  have htr := C.2.2.2.1
  unfold F_X7_isHere at h
  exact SB_go (T := fun e m' => res = (.error e, m')) (RET := fun v m' => res = (.ok v, m')) (SB_if (CE_2 wI (XE_2 wR (XE_1 (L_aload_n (r := (some this)) 0 X dX7_isHere_0 rfl rfl) (O_gr (c := 8) (j := 4) X rfl inW7 (by decide) fl_X7_19 rfl dX7_isHere_1)) (L_iload_n (x := its_) 2 X dX7_isHere_4 rfl rfl) (O_ai X dX7_isHere_5)) (L_iload_n (x := person_) 1 X dX7_isHere_6 rfl rfl) (C_eq_F X dX7_isHere_7 (by decide)))
  (SB_retZ X C hr dX7_isHere_29 (XE_b2i (CE_not (CE_1 (XE_2 wR (XE_1 (L_aload_n (r := (some this)) 0 X dX7_isHere_10 rfl rfl) (O_gr (c := 8) (j := 19) X rfl inW7 (by decide) fl_X7_62 rfl dX7_isHere_11)) (XE_2 wR (XE_1 (L_aload_n (r := (some this)) 0 X dX7_isHere_14 rfl rfl) (O_gr (c := 8) (j := 5) X rfl inW7 (by decide) fl_X7_22 rfl dX7_isHere_15)) (L_iload_n (x := its_) 2 X dX7_isHere_18 rfl rfl) (O_ai X dX7_isHere_19)) (O_az X dX7_isHere_20)) (Z_ne_T X dX7_isHere_21 (by decide)))) (S_b1 X dX7_isHere_24 dX7_isHere_25 (by decide)) (S_b0 X dX7_isHere_28)))
  (SB_let (XE_2 wR (XE_1 (L_aload_n (r := (some this)) 0 X dX7_isHere_30 rfl rfl) (O_gr (c := 8) (j := 25) X rfl inW7 (by decide) fl_X7_81 rfl dX7_isHere_31)) (XE_2 (pB := pI) wI (L_iload_n (x := person_) 1 X dX7_isHere_34 rfl rfl) (L_iload_n (x := its_) 2 X dX7_isHere_35 rfl rfl) (fun v0 v1 st mm a b hd hc hs h => g_callS (st := st) X hT htr (M_X7_at v0 v1) lk_X7_at st_X7_at ml_X7_171 rfl (by rw [hR]; exact ⟨Nat.le_of_ble_eq_true rfl, Nat.le_of_ble_eq_true rfl⟩) (Nat.le_trans hd (by decide)) ⟨hc, hs⟩ dX7_isHere_36 h)) (O_ai X dX7_isHere_39)) (S_istore_n (ev := fun own_20 => [(3, .int own_20), (0, va_rf (some this)), (1, .int person_), (2, .int its_)]) X dX7_isHere_40 rfl (by rw [hN]; decide) (fun _ => rfl)) fun own_20 =>
  (SB_retZ X C hr dX7_isHere_73 (XE_b2i (CE_and (CE_and (CE_2 wI (L_iload_n (x := own_20) 0 X dX7_isHere_41 rfl rfl) (L_iconst (v := (-1)) X dX7_isHere_42 (by decide)) (C_ne_F X dX7_isHere_43 (by decide))) (CE_not (CE_1 (XE_2 wR (XE_1 (L_aload_n (r := (some this)) 1 X dX7_isHere_46 rfl rfl) (O_gr (c := 8) (j := 19) X rfl inW7 (by decide) fl_X7_62 rfl dX7_isHere_47)) (L_iload_n (x := own_20) 0 X dX7_isHere_50 rfl rfl) (O_az X dX7_isHere_51)) (Z_ne_T X dX7_isHere_52 (by decide))))) (CE_1 (XE_2 wI (XE_2 wI (XE_2 wR (XE_1 (L_aload_n (r := (some this)) 1 X dX7_isHere_55 rfl rfl) (O_gr (c := 8) (j := 18) X rfl inW7 (by decide) fl_X7_59 rfl dX7_isHere_56)) (L_iload_n (x := own_20) 0 X dX7_isHere_59 rfl rfl) (O_ai X dX7_isHere_60)) (L_iload_n (x := person_) 2 X dX7_isHere_61 rfl rfl) (O_ishr X dX7_isHere_62)) (L_iconst (v := 1) X dX7_isHere_63 (by decide)) (O_iand X dX7_isHere_64)) (Z_eq_F X dX7_isHere_65 (by decide)))) (S_b1 X dX7_isHere_68 dX7_isHere_69 (by decide)) (S_b0 X dX7_isHere_72))))) h (by rw [hR]; decide) (by rw [hR]; decide)
theorem dX7_marks_0 : decode cX7_marks 0 = .ok (.aload_n 0, 1) := by decide +kernel
theorem dX7_marks_1 : decode cX7_marks 1 = .ok (.getfield 87, 3) := by decide +kernel
theorem dX7_marks_4 : decode cX7_marks 4 = .ok (.iload_n 1, 1) := by decide +kernel
theorem dX7_marks_5 : decode cX7_marks 5 = .ok (.dup2, 1) := by decide +kernel
theorem dX7_marks_6 : decode cX7_marks 6 = .ok (.iaload, 1) := by decide +kernel
theorem dX7_marks_7 : decode cX7_marks 7 = .ok (.iconst 1, 1) := by decide +kernel
theorem dX7_marks_8 : decode cX7_marks 8 = .ok (.iadd, 1) := by decide +kernel
theorem dX7_marks_9 : decode cX7_marks 9 = .ok (.iastore, 1) := by decide +kernel
theorem dX7_marks_10 : decode cX7_marks 10 = .ok (.aload_n 0, 1) := by decide +kernel
theorem dX7_marks_11 : decode cX7_marks 11 = .ok (.getfield 84, 3) := by decide +kernel
theorem dX7_marks_14 : decode cX7_marks 14 = .ok (.iload_n 1, 1) := by decide +kernel
theorem dX7_marks_15 : decode cX7_marks 15 = .ok (.iload_n 2, 1) := by decide +kernel
theorem dX7_marks_16 : decode cX7_marks 16 = .ok (.invokestatic 171, 3) := by decide +kernel
theorem dX7_marks_19 : decode cX7_marks 19 = .ok (.aload_n 0, 1) := by decide +kernel
theorem dX7_marks_20 : decode cX7_marks 20 = .ok (.getfield 87, 3) := by decide +kernel
theorem dX7_marks_23 : decode cX7_marks 23 = .ok (.iload_n 1, 1) := by decide +kernel
theorem dX7_marks_24 : decode cX7_marks 24 = .ok (.iaload, 1) := by decide +kernel
theorem dX7_marks_25 : decode cX7_marks 25 = .ok (.iastore, 1) := by decide +kernel
theorem dX7_marks_26 : decode cX7_marks 26 = .ok (.iconst 0, 1) := by decide +kernel
theorem dX7_marks_27 : decode cX7_marks 27 = .ok (.istore_n 3, 1) := by decide +kernel
theorem dX7_marks_28 : decode cX7_marks 28 = .ok (.iconst (-1), 1) := by decide +kernel
theorem dX7_marks_29 : decode cX7_marks 29 = .ok (.istore 4, 2) := by decide +kernel
theorem dX7_marks_31 : decode cX7_marks 31 = .ok (.iconst 0, 1) := by decide +kernel
theorem dX7_marks_32 : decode cX7_marks 32 = .ok (.istore 5, 2) := by decide +kernel
theorem dX7_marks_34 : decode cX7_marks 34 = .ok (.iload 5, 2) := by decide +kernel
theorem dX7_marks_36 : decode cX7_marks 36 = .ok (.aload_n 0, 1) := by decide +kernel
theorem dX7_marks_37 : decode cX7_marks 37 = .ok (.getfield 143, 3) := by decide +kernel
theorem dX7_marks_40 : decode cX7_marks 40 = .ok (.if_icmp .ge 76, 3) := by decide +kernel
theorem dX7_marks_43 : decode cX7_marks 43 = .ok (.aload_n 0, 1) := by decide +kernel
theorem dX7_marks_44 : decode cX7_marks 44 = .ok (.getfield 84, 3) := by decide +kernel
theorem dX7_marks_47 : decode cX7_marks 47 = .ok (.iload_n 1, 1) := by decide +kernel
theorem dX7_marks_48 : decode cX7_marks 48 = .ok (.iload 5, 2) := by decide +kernel
theorem dX7_marks_50 : decode cX7_marks 50 = .ok (.invokestatic 171, 3) := by decide +kernel
theorem dX7_marks_53 : decode cX7_marks 53 = .ok (.iaload, 1) := by decide +kernel
theorem dX7_marks_54 : decode cX7_marks 54 = .ok (.ifCond .le 56, 3) := by decide +kernel
theorem dX7_marks_57 : decode cX7_marks 57 = .ok (.aload_n 0, 1) := by decide +kernel
theorem dX7_marks_58 : decode cX7_marks 58 = .ok (.iload_n 1, 1) := by decide +kernel
theorem dX7_marks_59 : decode cX7_marks 59 = .ok (.iload 5, 2) := by decide +kernel
theorem dX7_marks_61 : decode cX7_marks 61 = .ok (.invokevirtual 174, 3) := by decide +kernel
theorem dX7_marks_64 : decode cX7_marks 64 = .ok (.ifCond .ne 46, 3) := by decide +kernel
theorem dX7_marks_67 : decode cX7_marks 67 = .ok (.iinc 3 1, 3) := by decide +kernel
theorem dX7_marks_70 : decode cX7_marks 70 = .ok (.iload 4, 2) := by decide +kernel
theorem dX7_marks_72 : decode cX7_marks 72 = .ok (.iconst (-1), 1) := by decide +kernel
theorem dX7_marks_73 : decode cX7_marks 73 = .ok (.if_icmp .eq 28, 3) := by decide +kernel
theorem dX7_marks_76 : decode cX7_marks 76 = .ok (.aload_n 0, 1) := by decide +kernel
theorem dX7_marks_77 : decode cX7_marks 77 = .ok (.getfield 84, 3) := by decide +kernel
theorem dX7_marks_80 : decode cX7_marks 80 = .ok (.iload_n 1, 1) := by decide +kernel
theorem dX7_marks_81 : decode cX7_marks 81 = .ok (.iload 5, 2) := by decide +kernel
theorem dX7_marks_83 : decode cX7_marks 83 = .ok (.invokestatic 171, 3) := by decide +kernel
theorem dX7_marks_86 : decode cX7_marks 86 = .ok (.iaload, 1) := by decide +kernel
theorem dX7_marks_87 : decode cX7_marks 87 = .ok (.aload_n 0, 1) := by decide +kernel
theorem dX7_marks_88 : decode cX7_marks 88 = .ok (.getfield 84, 3) := by decide +kernel
theorem dX7_marks_91 : decode cX7_marks 91 = .ok (.iload_n 1, 1) := by decide +kernel
theorem dX7_marks_92 : decode cX7_marks 92 = .ok (.iload 4, 2) := by decide +kernel
theorem dX7_marks_94 : decode cX7_marks 94 = .ok (.invokestatic 171, 3) := by decide +kernel
theorem dX7_marks_97 : decode cX7_marks 97 = .ok (.iaload, 1) := by decide +kernel
theorem dX7_marks_98 : decode cX7_marks 98 = .ok (.if_icmp .ge 8, 3) := by decide +kernel
theorem dX7_marks_101 : decode cX7_marks 101 = .ok (.iload 5, 2) := by decide +kernel
theorem dX7_marks_103 : decode cX7_marks 103 = .ok (.goto 5, 3) := by decide +kernel
theorem dX7_marks_106 : decode cX7_marks 106 = .ok (.iload 4, 2) := by decide +kernel
theorem dX7_marks_108 : decode cX7_marks 108 = .ok (.istore 4, 2) := by decide +kernel
theorem dX7_marks_110 : decode cX7_marks 110 = .ok (.iinc 5 1, 3) := by decide +kernel
theorem dX7_marks_113 : decode cX7_marks 113 = .ok (.goto (-79), 3) := by decide +kernel
theorem dX7_marks_116 : decode cX7_marks 116 = .ok (.iload_n 3, 1) := by decide +kernel
theorem dX7_marks_117 : decode cX7_marks 117 = .ok (.iconst 3, 1) := by decide +kernel
theorem dX7_marks_118 : decode cX7_marks 118 = .ok (.if_icmp .le 32, 3) := by decide +kernel
theorem dX7_marks_121 : decode cX7_marks 121 = .ok (.aload_n 0, 1) := by decide +kernel
theorem dX7_marks_122 : decode cX7_marks 122 = .ok (.getfield 90, 3) := by decide +kernel
theorem dX7_marks_125 : decode cX7_marks 125 = .ok (.iload_n 1, 1) := by decide +kernel
theorem dX7_marks_126 : decode cX7_marks 126 = .ok (.aload_n 0, 1) := by decide +kernel
theorem dX7_marks_127 : decode cX7_marks 127 = .ok (.getfield 84, 3) := by decide +kernel
theorem dX7_marks_130 : decode cX7_marks 130 = .ok (.iload_n 1, 1) := by decide +kernel
theorem dX7_marks_131 : decode cX7_marks 131 = .ok (.iload 4, 2) := by decide +kernel
theorem dX7_marks_133 : decode cX7_marks 133 = .ok (.invokestatic 171, 3) := by decide +kernel
theorem dX7_marks_136 : decode cX7_marks 136 = .ok (.iaload, 1) := by decide +kernel
theorem dX7_marks_137 : decode cX7_marks 137 = .ok (.iastore, 1) := by decide +kernel
theorem dX7_marks_138 : decode cX7_marks 138 = .ok (.aload_n 0, 1) := by decide +kernel
theorem dX7_marks_139 : decode cX7_marks 139 = .ok (.getfield 84, 3) := by decide +kernel
theorem dX7_marks_142 : decode cX7_marks 142 = .ok (.iload_n 1, 1) := by decide +kernel
theorem dX7_marks_143 : decode cX7_marks 143 = .ok (.iload 4, 2) := by decide +kernel
theorem dX7_marks_145 : decode cX7_marks 145 = .ok (.invokestatic 171, 3) := by decide +kernel
theorem dX7_marks_148 : decode cX7_marks 148 = .ok (.iconst 0, 1) := by decide +kernel
theorem dX7_marks_149 : decode cX7_marks 149 = .ok (.iastore, 1) := by decide +kernel
theorem dX7_marks_150 : decode cX7_marks 150 = .ok (.return_, 1) := by decide +kernel
theorem lk_X7_marks : LK yX7_marks cX7_marks 6 none 2 := ⟨qW_at 1513 (by decide +kernel) rfl, qW_at 78 (by decide +kernel) rfl, by decide, by decide, by decide +kernel⟩
theorem im_X7_marks : Cond.instanceMethod yX7_marks ∈ qW := qW_at 1512 (by decide +kernel) rfl
theorem se_X7_marks : Cond.selects RX7 yX7_marks yX7_marks ∈ qW := qW_at 35 (by decide +kernel) rfl
def F_X7_marks (this : Nat) (person_ : Int32) (its_ : Int32) : QX Unit :=
  (xb (xb (xb (xp (some this)) fun v1 => xgr 8 27 v1) fun v2 => xb (xp person_) fun v3 => xb (xai 0 v2 v3) fun v4 => xb (xp (1 : Int32)) fun v5 => xb (xp (v4 + v5)) fun v6 => xsai v2 v3 v6) fun _ =>
  (xb (xb (xb (xp (some this)) fun v7 => xgr 8 26 v7) fun v13 => xb (xb (xp person_) fun v8 => xb (xp its_) fun v9 => F_X7_at v8 v9) fun v14 => xb (xb (xb (xp (some this)) fun v10 => xgr 8 27 v10) fun v11 => xb (xp person_) fun v12 => xai 0 v11 v12) fun v15 => xsai v13 v14 v15) fun _ =>
  (xb (xp (0 : Int32)) fun gone_16 =>
  (xb (xp (-1 : Int32)) fun lowest_17 =>
  (xb (xp (0 : Int32)) fun k_18 =>
  (xb (xl 2000 (fun (s19 : Int32 × Int32 × Int32) => (xb (xp s19.2.2) fun v20 => xb (xb (xp (some this)) fun v21 => xgi 8 3 v21) fun v22 => xp (decide (v20 < v22)))) (fun (s19 : Int32 × Int32 × Int32) =>
  (xb (xb (xb (xb (xb (xb (xp (some this)) fun v23 => xgr 8 26 v23) fun v26 => xb (xb (xp person_) fun v24 => xb (xp s19.2.2) fun v25 => F_X7_at v24 v25) fun v27 => xai 0 v26 v27) fun v28 => xp (decide (0 < v28))) fun v34 => if v34 then (xb (xb (xb (xp (some this)) fun v29 => xb (xp person_) fun v30 => xb (xp s19.2.2) fun v31 => xo 8 v29 fun q => F_X7_isHere q v30 v31) fun v32 => xp (decide (¬ v32 = 0))) fun v33 => xp (!v33)) else xp false) fun v52 => if v52 then (xb (xb (xb (xb (xp s19.2.1) fun v35 => xb (xp (-1 : Int32)) fun v36 => xp (decide (v35 = v36))) fun v49 => if v49 then xp true else (xb (xb (xb (xp (some this)) fun v37 => xgr 8 26 v37) fun v40 => xb (xb (xp person_) fun v38 => xb (xp s19.2.2) fun v39 => F_X7_at v38 v39) fun v41 => xai 0 v40 v41) fun v42 => xb (xb (xb (xp (some this)) fun v43 => xgr 8 26 v43) fun v46 => xb (xb (xp person_) fun v44 => xb (xp s19.2.1) fun v45 => F_X7_at v44 v45) fun v47 => xai 0 v46 v47) fun v48 => xp (decide (v42 < v48)))) fun v50 => if v50 then (xp s19.2.2) else (xp s19.2.1)) fun lowest_51 =>
  (xp ((s19.1 + 1), lowest_51))) else (xp (s19.1, s19.2.1))) fun s53 =>
  (xp (s53.1, s53.2, (s19.2.2 + 1))))) (gone_16, lowest_17, k_18)) fun s54 =>
  (xb (xb (xb (xp s54.1) fun v55 => xb (xp (3 : Int32)) fun v56 => xp (decide (v56 < v55))) fun v72 => if v72 then (xb (xb (xb (xp (some this)) fun v57 => xgr 8 28 v57) fun v63 => xb (xp person_) fun v64 => xb (xb (xb (xp (some this)) fun v58 => xgr 8 26 v58) fun v61 => xb (xb (xp person_) fun v59 => xb (xp s54.2.1) fun v60 => F_X7_at v59 v60) fun v62 => xai 0 v61 v62) fun v65 => xsai v63 v64 v65) fun _ =>
  (xb (xb (xb (xp (some this)) fun v66 => xgr 8 26 v66) fun v69 => xb (xb (xp person_) fun v67 => xb (xp s54.2.1) fun v68 => F_X7_at v67 v68) fun v70 => xb (xp (0 : Int32)) fun v71 => xsai v69 v70 v71) fun _ =>
  (xp ()))) else (xp ())) fun s73 =>
  (xp ()))))))))
set_option maxRecDepth 100000 in
set_option maxHeartbeats 4000000 in
theorem M_X7_marks (this : Nat) (person_ : Int32) (its_ : Int32) : MM yX7_marks cX7_marks 6 none 2 44 0 0 encU [.ref this, .int person_, .int its_] (F_X7_marks this person_ its_) := by
  refine MM_of (env0 := [(0, va_rf (some this)), (1, .int person_), (2, .int its_)]) (by decide) (by exact Nat.le_of_ble_eq_true rfl) (by rfl) (fun k mm res X C hR hN hr hname h => ?_)
  have X : CX k cX7_marks RX7 := X
  have hT : TH k (fun e m' => res = (.error e, m')) := TH_of C
  have htr := C.2.2.2.1
  unfold F_X7_marks at h
  exact SB_go (T := fun e m' => res = (.error e, m')) (RET := fun v m' => res = (.ok v, m')) (SB_do (XE_dup2 wI (XE_1 (L_aload_n (r := (some this)) 0 X dX7_marks_0 rfl rfl) (O_gr (c := 8) (j := 27) X rfl inW7 (by decide) fl_X7_87 rfl dX7_marks_1)) (L_iload_n (x := person_) 1 X dX7_marks_4 rfl rfl) (S_dup2 X dX7_marks_5) (O_ai X dX7_marks_6) (L_iconst (v := 1) X dX7_marks_7 (by decide)) (O_iadd X dX7_marks_8) (O_sai X dX7_marks_9))
  (SB_do (XE_3 wR wI (XE_1 (L_aload_n (r := (some this)) 0 X dX7_marks_10 rfl rfl) (O_gr (c := 8) (j := 26) X rfl inW7 (by decide) fl_X7_84 rfl dX7_marks_11)) (XE_2 (pB := pI) wI (L_iload_n (x := person_) 1 X dX7_marks_14 rfl rfl) (L_iload_n (x := its_) 2 X dX7_marks_15 rfl rfl) (fun v0 v1 st mm a b hd hc hs h => g_callS (st := st) X hT htr (M_X7_at v0 v1) lk_X7_at st_X7_at ml_X7_171 rfl (by rw [hR]; exact ⟨Nat.le_of_ble_eq_true rfl, Nat.le_of_ble_eq_true rfl⟩) (Nat.le_trans hd (by decide)) ⟨hc, hs⟩ dX7_marks_16 h)) (XE_2 wR (XE_1 (L_aload_n (r := (some this)) 0 X dX7_marks_19 rfl rfl) (O_gr (c := 8) (j := 27) X rfl inW7 (by decide) fl_X7_87 rfl dX7_marks_20)) (L_iload_n (x := person_) 1 X dX7_marks_23 rfl rfl) (O_ai X dX7_marks_24)) (O_sai X dX7_marks_25))
  (SB_let (L_iconst (v := 0) X dX7_marks_26 (by decide)) (S_istore_n (ev := fun gone_16 => [(3, .int gone_16), (0, va_rf (some this)), (1, .int person_), (2, .int its_)]) X dX7_marks_27 rfl (by rw [hN]; decide) (fun _ => rfl)) fun gone_16 =>
  (SB_let (L_iconst (v := (-1)) X dX7_marks_28 (by decide)) (S_istore (ev := fun lowest_17 => [(4, .int lowest_17), (3, .int gone_16), (0, va_rf (some this)), (1, .int person_), (2, .int its_)]) X dX7_marks_29 (by rw [hN]; decide) (fun _ => rfl)) fun lowest_17 =>
  (SB_let (L_iconst (v := 0) X dX7_marks_31 (by decide)) (S_istore (ev := fun k_18 => [(5, .int k_18), (4, .int lowest_17), (3, .int gone_16), (0, va_rf (some this)), (1, .int person_), (2, .int its_)]) X dX7_marks_32 (by rw [hN]; decide) (fun _ => rfl)) fun k_18 =>
  (SB_seq (ST_loop (σ := Int32 × Int32 × Int32) (upd := (fun (s : Int32 × Int32 × Int32) => [(5, .int s.2.2), (4, .int s.2.1), (3, .int s.1), (0, va_rf (some this)), (1, .int person_), (2, .int its_)])) (s0 := (gone_16, lowest_17, k_18)) (n := 2000) (fun mm a b h => GG_sub [0, 1, 2, 3, 4, 5] rfl h)
  (fun s19 => (CE_2 wI (L_iload (x := s19.2.2) 0 X dX7_marks_34 rfl) (XE_1 (L_aload_n (r := (some this)) 3 X dX7_marks_36 rfl rfl) (O_gi (c := 8) (j := 3) X rfl inW7 (by decide) fl_X7_143 rfl dX7_marks_37)) (C_lt_F X dX7_marks_40 (by decide))))
  (fun s19 => (ST_post (ST_seq (ST_if (CE_and (CE_1 (XE_2 wR (XE_1 (L_aload_n (r := (some this)) 3 X dX7_marks_43 rfl rfl) (O_gr (c := 8) (j := 26) X rfl inW7 (by decide) fl_X7_84 rfl dX7_marks_44)) (XE_2 (pB := pI) wI (L_iload_n (x := person_) 4 X dX7_marks_47 rfl rfl) (L_iload (x := s19.2.2) 0 X dX7_marks_48 rfl) (fun v0 v1 st mm a b hd hc hs h => g_callS (st := st) X hT htr (M_X7_at v0 v1) lk_X7_at st_X7_at ml_X7_171 rfl (by rw [hR]; exact ⟨Nat.le_of_ble_eq_true rfl, Nat.le_of_ble_eq_true rfl⟩) (Nat.le_trans hd (by decide)) ⟨hc, hs⟩ dX7_marks_50 h)) (O_ai X dX7_marks_53)) (Z_gt_F X dX7_marks_54 (by decide))) (CE_not (CE_1 (XE_3 (pB := pI) wR wI (L_aload_n (r := (some this)) 3 X dX7_marks_57 rfl rfl) (L_iload_n (x := person_) 4 X dX7_marks_58 rfl rfl) (L_iload (x := s19.2.2) 0 X dX7_marks_59 rfl) (fun v0 v1 v2 st mm a b hd hc hs h => g_callVo (st := st) (cI := 8) X hT htr rfl (fun q => M_X7_isHere q v1 v2) lk_X7_isHere im_X7_isHere se_X7_isHere ml_X7_174 rfl (by rw [hR]; exact ⟨Nat.le_of_ble_eq_true rfl, Nat.le_of_ble_eq_true rfl⟩) (Nat.le_trans hd (by decide)) ⟨hc, hs⟩ dX7_marks_61 h)) (Z_ne_T X dX7_marks_64 (by decide)))))
  (ST_pre (env' := [(3, .int (s19.1 + 1)), (5, .int s19.2.2), (4, .int s19.2.1), (0, va_rf (some this)), (1, .int person_), (2, .int its_)]) (S_iinc 2 X dX7_marks_67 rfl rfl (by rw [hN]; decide) rfl)
  (ST_let (XE_tern (CE_or (CE_2 wI (L_iload (x := s19.2.1) 2 X dX7_marks_70 rfl) (L_iconst (v := (-1)) X dX7_marks_72 (by decide)) (C_eq_T X dX7_marks_73 (by decide))) (CE_2 wI (XE_2 wR (XE_1 (L_aload_n (r := (some this)) 3 X dX7_marks_76 rfl rfl) (O_gr (c := 8) (j := 26) X rfl inW7 (by decide) fl_X7_84 rfl dX7_marks_77)) (XE_2 (pB := pI) wI (L_iload_n (x := person_) 4 X dX7_marks_80 rfl rfl) (L_iload (x := s19.2.2) 1 X dX7_marks_81 rfl) (fun v0 v1 st mm a b hd hc hs h => g_callS (st := st) X hT htr (M_X7_at v0 v1) lk_X7_at st_X7_at ml_X7_171 rfl (by rw [hR]; exact ⟨Nat.le_of_ble_eq_true rfl, Nat.le_of_ble_eq_true rfl⟩) (Nat.le_trans hd (by decide)) ⟨hc, hs⟩ dX7_marks_83 h)) (O_ai X dX7_marks_86)) (XE_2 wR (XE_1 (L_aload_n (r := (some this)) 3 X dX7_marks_87 rfl rfl) (O_gr (c := 8) (j := 26) X rfl inW7 (by decide) fl_X7_84 rfl dX7_marks_88)) (XE_2 (pB := pI) wI (L_iload_n (x := person_) 4 X dX7_marks_91 rfl rfl) (L_iload (x := s19.2.1) 2 X dX7_marks_92 rfl) (fun v0 v1 st mm a b hd hc hs h => g_callS (st := st) X hT htr (M_X7_at v0 v1) lk_X7_at st_X7_at ml_X7_171 rfl (by rw [hR]; exact ⟨Nat.le_of_ble_eq_true rfl, Nat.le_of_ble_eq_true rfl⟩) (Nat.le_trans hd (by decide)) ⟨hc, hs⟩ dX7_marks_94 h)) (O_ai X dX7_marks_97)) (C_lt_F X dX7_marks_98 (by decide)))) (L_iload (x := s19.2.2) 1 X dX7_marks_101 rfl) (S_goto X dX7_marks_103 (by decide)) (L_iload (x := s19.2.1) 2 X dX7_marks_106 rfl)) (S_istore (ev := fun lowest_51 => [(4, .int lowest_51), (3, .int (s19.1 + 1)), (5, .int s19.2.2), (0, va_rf (some this)), (1, .int person_), (2, .int its_)]) X dX7_marks_108 (by rw [hN]; decide) (fun _ => rfl)) fun lowest_51 =>
  (ST_done (upd := (fun (s : Int32 × Int32) => [(5, .int s19.2.2), (4, .int s.2), (3, .int s.1), (0, va_rf (some this)), (1, .int person_), (2, .int its_)])) (s := ((s19.1 + 1), lowest_51)) [2, 0, 1, 3, 4, 5] rfl)))
  (ST_done (upd := (fun (s : Int32 × Int32) => [(5, .int s19.2.2), (4, .int s.2), (3, .int s.1), (0, va_rf (some this)), (1, .int person_), (2, .int its_)])) (s := (s19.1, s19.2.1)) [0, 1, 2, 3, 4, 5] rfl)) fun s53 =>
  (ST_pre (env' := [(5, .int (s19.2.2 + 1)), (4, .int s53.2), (3, .int s53.1), (0, va_rf (some this)), (1, .int person_), (2, .int its_)]) (S_iinc 0 X dX7_marks_110 rfl rfl (by rw [hN]; decide) rfl)
  (ST_done (upd := (fun (s : Int32 × Int32 × Int32) => [(5, .int s.2.2), (4, .int s.2.1), (3, .int s.1), (0, va_rf (some this)), (1, .int person_), (2, .int its_)])) (s := (s53.1, s53.2, (s19.2.2 + 1))) [0, 1, 2, 3, 4, 5] rfl))) fun _ mm a b h => S_goto X dX7_marks_113 (by decide) [] mm a b h))) fun s54 =>
  (SB_seq (ST_if (CE_2 wI (L_iload_n (x := s54.1) 2 X dX7_marks_116 rfl rfl) (L_iconst (v := 3) X dX7_marks_117 (by decide)) (C_gt_F X dX7_marks_118 (by decide)))
  (ST_do (XE_3 wR wI (XE_1 (L_aload_n (r := (some this)) 3 X dX7_marks_121 rfl rfl) (O_gr (c := 8) (j := 28) X rfl inW7 (by decide) fl_X7_90 rfl dX7_marks_122)) (L_iload_n (x := person_) 4 X dX7_marks_125 rfl rfl) (XE_2 wR (XE_1 (L_aload_n (r := (some this)) 3 X dX7_marks_126 rfl rfl) (O_gr (c := 8) (j := 26) X rfl inW7 (by decide) fl_X7_84 rfl dX7_marks_127)) (XE_2 (pB := pI) wI (L_iload_n (x := person_) 4 X dX7_marks_130 rfl rfl) (L_iload (x := s54.2.1) 1 X dX7_marks_131 rfl) (fun v0 v1 st mm a b hd hc hs h => g_callS (st := st) X hT htr (M_X7_at v0 v1) lk_X7_at st_X7_at ml_X7_171 rfl (by rw [hR]; exact ⟨Nat.le_of_ble_eq_true rfl, Nat.le_of_ble_eq_true rfl⟩) (Nat.le_trans hd (by decide)) ⟨hc, hs⟩ dX7_marks_133 h)) (O_ai X dX7_marks_136)) (O_sai X dX7_marks_137))
  (ST_do (XE_3 wR wI (XE_1 (L_aload_n (r := (some this)) 3 X dX7_marks_138 rfl rfl) (O_gr (c := 8) (j := 26) X rfl inW7 (by decide) fl_X7_84 rfl dX7_marks_139)) (XE_2 (pB := pI) wI (L_iload_n (x := person_) 4 X dX7_marks_142 rfl rfl) (L_iload (x := s54.2.1) 1 X dX7_marks_143 rfl) (fun v0 v1 st mm a b hd hc hs h => g_callS (st := st) X hT htr (M_X7_at v0 v1) lk_X7_at st_X7_at ml_X7_171 rfl (by rw [hR]; exact ⟨Nat.le_of_ble_eq_true rfl, Nat.le_of_ble_eq_true rfl⟩) (Nat.le_trans hd (by decide)) ⟨hc, hs⟩ dX7_marks_145 h)) (L_iconst (v := 0) X dX7_marks_148 (by decide)) (O_sai X dX7_marks_149))
  (ST_done (upd := (fun (s : Unit) => [(5, .int s54.2.2), (4, .int s54.2.1), (3, .int s54.1), (0, va_rf (some this)), (1, .int person_), (2, .int its_)])) (s := ()) [0, 1, 2, 3, 4, 5] rfl)))
  (ST_done (upd := (fun (s : Unit) => [(5, .int s54.2.2), (4, .int s54.2.1), (3, .int s54.1), (0, va_rf (some this)), (1, .int person_), (2, .int its_)])) (s := ()) [0, 1, 2, 3, 4, 5] rfl)) fun s73 =>
  (SB_retU X C hr dX7_marks_150)))))))) h (by rw [hR]; decide) (by rw [hR]; decide)
theorem dX7_isOfRule_0 : decode cX7_isOfRule 0 = .ok (.iload_n 2, 1) := by decide +kernel
theorem dX7_isOfRule_1 : decode cX7_isOfRule 1 = .ok (.aload_n 0, 1) := by decide +kernel
theorem dX7_isOfRule_2 : decode cX7_isOfRule 2 = .ok (.getfield 38, 3) := by decide +kernel
theorem dX7_isOfRule_5 : decode cX7_isOfRule 5 = .ok (.iload_n 1, 1) := by decide +kernel
theorem dX7_isOfRule_6 : decode cX7_isOfRule 6 = .ok (.iaload, 1) := by decide +kernel
theorem dX7_isOfRule_7 : decode cX7_isOfRule 7 = .ok (.isub, 1) := by decide +kernel
theorem dX7_isOfRule_8 : decode cX7_isOfRule 8 = .ok (.istore_n 3, 1) := by decide +kernel
theorem dX7_isOfRule_9 : decode cX7_isOfRule 9 = .ok (.iload_n 3, 1) := by decide +kernel
theorem dX7_isOfRule_10 : decode cX7_isOfRule 10 = .ok (.ifCond .lt 35, 3) := by decide +kernel
theorem dX7_isOfRule_13 : decode cX7_isOfRule 13 = .ok (.iload_n 3, 1) := by decide +kernel
theorem dX7_isOfRule_14 : decode cX7_isOfRule 14 = .ok (.aload_n 0, 1) := by decide +kernel
theorem dX7_isOfRule_15 : decode cX7_isOfRule 15 = .ok (.getfield 47, 3) := by decide +kernel
theorem dX7_isOfRule_18 : decode cX7_isOfRule 18 = .ok (.iload_n 1, 1) := by decide +kernel
theorem dX7_isOfRule_19 : decode cX7_isOfRule 19 = .ok (.iaload, 1) := by decide +kernel
theorem dX7_isOfRule_20 : decode cX7_isOfRule 20 = .ok (.irem, 1) := by decide +kernel
theorem dX7_isOfRule_21 : decode cX7_isOfRule 21 = .ok (.ifCond .ne 24, 3) := by decide +kernel
theorem dX7_isOfRule_24 : decode cX7_isOfRule 24 = .ok (.aload_n 0, 1) := by decide +kernel
theorem dX7_isOfRule_25 : decode cX7_isOfRule 25 = .ok (.getfield 50, 3) := by decide +kernel
theorem dX7_isOfRule_28 : decode cX7_isOfRule 28 = .ok (.iload_n 1, 1) := by decide +kernel
theorem dX7_isOfRule_29 : decode cX7_isOfRule 29 = .ok (.iaload, 1) := by decide +kernel
theorem dX7_isOfRule_30 : decode cX7_isOfRule 30 = .ok (.iload_n 2, 1) := by decide +kernel
theorem dX7_isOfRule_31 : decode cX7_isOfRule 31 = .ok (.bipush 7, 2) := by decide +kernel
theorem dX7_isOfRule_33 : decode cX7_isOfRule 33 = .ok (.irem, 1) := by decide +kernel
theorem dX7_isOfRule_34 : decode cX7_isOfRule 34 = .ok (.ishr, 1) := by decide +kernel
theorem dX7_isOfRule_35 : decode cX7_isOfRule 35 = .ok (.iconst 1, 1) := by decide +kernel
theorem dX7_isOfRule_36 : decode cX7_isOfRule 36 = .ok (.iand, 1) := by decide +kernel
theorem dX7_isOfRule_37 : decode cX7_isOfRule 37 = .ok (.iconst 1, 1) := by decide +kernel
theorem dX7_isOfRule_38 : decode cX7_isOfRule 38 = .ok (.if_icmp .ne 7, 3) := by decide +kernel
theorem dX7_isOfRule_41 : decode cX7_isOfRule 41 = .ok (.iconst 1, 1) := by decide +kernel
theorem dX7_isOfRule_42 : decode cX7_isOfRule 42 = .ok (.goto 4, 3) := by decide +kernel
theorem dX7_isOfRule_45 : decode cX7_isOfRule 45 = .ok (.iconst 0, 1) := by decide +kernel
theorem dX7_isOfRule_46 : decode cX7_isOfRule 46 = .ok (.ireturn, 1) := by decide +kernel
theorem lk_X7_isOfRule : LK yX7_isOfRule cX7_isOfRule 4 (some .boolean) 2 := ⟨qW_at 1506 (by decide +kernel) rfl, qW_at 78 (by decide +kernel) rfl, by decide, by decide, by decide +kernel⟩
theorem im_X7_isOfRule : Cond.instanceMethod yX7_isOfRule ∈ qW := qW_at 1505 (by decide +kernel) rfl
theorem se_X7_isOfRule : Cond.selects RX7 yX7_isOfRule yX7_isOfRule ∈ qW := qW_at 34 (by decide +kernel) rfl
def F_X7_isOfRule (this : Nat) (its_ : Int32) (when_ : Int32) : QX Int32 :=
  (xb (xb (xp when_) fun v4 => xb (xb (xb (xp (some this)) fun v1 => xgr 8 11 v1) fun v2 => xb (xp its_) fun v3 => xai 0 v2 v3) fun v5 => (xp (v4 - v5))) fun behind_6 =>
  (xb (xb (xb (xb (xb (xp behind_6) fun v7 => xp (decide (0 ≤ v7))) fun v14 => if v14 then (xb (xb (xp behind_6) fun v11 => xb (xb (xb (xp (some this)) fun v8 => xgr 8 14 v8) fun v9 => xb (xp its_) fun v10 => xai 0 v9 v10) fun v12 => (xrem v11 v12)) fun v13 => xp (decide (v13 = 0))) else xp false) fun v26 => if v26 then (xb (xb (xb (xb (xb (xp (some this)) fun v15 => xgr 8 15 v15) fun v16 => xb (xp its_) fun v17 => xai 0 v16 v17) fun v20 => xb (xb (xp when_) fun v18 => xb (xp (7 : Int32)) fun v19 => (xrem v18 v19)) fun v21 => (xp (v20 >>> (v21 &&& 31)))) fun v22 => xb (xp (1 : Int32)) fun v23 => (xp (v22 &&& v23))) fun v24 => xb (xp (1 : Int32)) fun v25 => xp (decide (v24 = v25))) else xp false) fun v27 => xp (b2i v27)) xz))
set_option maxRecDepth 100000 in
set_option maxHeartbeats 4000000 in
theorem M_X7_isOfRule (this : Nat) (its_ : Int32) (when_ : Int32) : MM yX7_isOfRule cX7_isOfRule 4 (some .boolean) 0 0 0 0 encI [.ref this, .int its_, .int when_] (F_X7_isOfRule this its_ when_) := by
  refine MM_of (env0 := [(0, va_rf (some this)), (1, .int its_), (2, .int when_)]) (by decide) (by exact Nat.le_of_ble_eq_true rfl) (by rfl) (fun k mm res X C hR hN hr hname h => ?_)
  have X : CX k cX7_isOfRule RX7 := X
  have hT : TH k (fun e m' => res = (.error e, m')) := TH_of C
  have htr := C.2.2.2.1
  unfold F_X7_isOfRule at h
  exact SB_go (T := fun e m' => res = (.error e, m')) (RET := fun v m' => res = (.ok v, m')) (SB_let (XE_2 wI (L_iload_n (x := when_) 2 X dX7_isOfRule_0 rfl rfl) (XE_2 wR (XE_1 (L_aload_n (r := (some this)) 0 X dX7_isOfRule_1 rfl rfl) (O_gr (c := 8) (j := 11) X rfl inW7 (by decide) fl_X7_38 rfl dX7_isOfRule_2)) (L_iload_n (x := its_) 1 X dX7_isOfRule_5 rfl rfl) (O_ai X dX7_isOfRule_6)) (O_isub X dX7_isOfRule_7)) (S_istore_n (ev := fun behind_6 => [(3, .int behind_6), (0, va_rf (some this)), (1, .int its_), (2, .int when_)]) X dX7_isOfRule_8 rfl (by rw [hN]; decide) (fun _ => rfl)) fun behind_6 =>
  (SB_retZ X C hr dX7_isOfRule_46 (XE_b2i (CE_and (CE_and (CE_1 (L_iload_n (x := behind_6) 0 X dX7_isOfRule_9 rfl rfl) (Z_ge_F X dX7_isOfRule_10 (by decide))) (CE_1 (XE_2 wI (L_iload_n (x := behind_6) 0 X dX7_isOfRule_13 rfl rfl) (XE_2 wR (XE_1 (L_aload_n (r := (some this)) 1 X dX7_isOfRule_14 rfl rfl) (O_gr (c := 8) (j := 14) X rfl inW7 (by decide) fl_X7_47 rfl dX7_isOfRule_15)) (L_iload_n (x := its_) 2 X dX7_isOfRule_18 rfl rfl) (O_ai X dX7_isOfRule_19)) (O_irem X dX7_isOfRule_20)) (Z_eq_F X dX7_isOfRule_21 (by decide)))) (CE_2 wI (XE_2 wI (XE_2 wI (XE_2 wR (XE_1 (L_aload_n (r := (some this)) 1 X dX7_isOfRule_24 rfl rfl) (O_gr (c := 8) (j := 15) X rfl inW7 (by decide) fl_X7_50 rfl dX7_isOfRule_25)) (L_iload_n (x := its_) 2 X dX7_isOfRule_28 rfl rfl) (O_ai X dX7_isOfRule_29)) (XE_2 wI (L_iload_n (x := when_) 3 X dX7_isOfRule_30 rfl rfl) (L_bipush (v := (7)) X dX7_isOfRule_31 (by decide)) (O_irem X dX7_isOfRule_33)) (O_ishr X dX7_isOfRule_34)) (L_iconst (v := 1) X dX7_isOfRule_35 (by decide)) (O_iand X dX7_isOfRule_36)) (L_iconst (v := 1) X dX7_isOfRule_37 (by decide)) (C_eq_F X dX7_isOfRule_38 (by decide)))) (S_b1 X dX7_isOfRule_41 dX7_isOfRule_42 (by decide)) (S_b0 X dX7_isOfRule_45)))) h (by rw [hR]; decide) (by rw [hR]; decide)
theorem dX7_laysDates_0 : decode cX7_laysDates 0 = .ok (.aload_n 0, 1) := by decide +kernel
theorem dX7_laysDates_1 : decode cX7_laysDates 1 = .ok (.getfield 75, 3) := by decide +kernel
theorem dX7_laysDates_4 : decode cX7_laysDates 4 = .ok (.iload_n 1, 1) := by decide +kernel
theorem dX7_laysDates_5 : decode cX7_laysDates 5 = .ok (.aload_n 0, 1) := by decide +kernel
theorem dX7_laysDates_6 : decode cX7_laysDates 6 = .ok (.getfield 65, 3) := by decide +kernel
theorem dX7_laysDates_9 : decode cX7_laysDates 9 = .ok (.iload_n 1, 1) := by decide +kernel
theorem dX7_laysDates_10 : decode cX7_laysDates 10 = .ok (.laload, 1) := by decide +kernel
theorem dX7_laysDates_11 : decode cX7_laysDates 11 = .ok (.lastore, 1) := by decide +kernel
theorem dX7_laysDates_12 : decode cX7_laysDates 12 = .ok (.iconst 0, 1) := by decide +kernel
theorem dX7_laysDates_13 : decode cX7_laysDates 13 = .ok (.istore_n 2, 1) := by decide +kernel
theorem dX7_laysDates_14 : decode cX7_laysDates 14 = .ok (.iconst 0, 1) := by decide +kernel
theorem dX7_laysDates_15 : decode cX7_laysDates 15 = .ok (.istore_n 3, 1) := by decide +kernel
theorem dX7_laysDates_16 : decode cX7_laysDates 16 = .ok (.iload_n 3, 1) := by decide +kernel
theorem dX7_laysDates_17 : decode cX7_laysDates 17 = .ok (.bipush 60, 2) := by decide +kernel
theorem dX7_laysDates_19 : decode cX7_laysDates 19 = .ok (.if_icmp .ge 82, 3) := by decide +kernel
theorem dX7_laysDates_22 : decode cX7_laysDates 22 = .ok (.aload_n 0, 1) := by decide +kernel
theorem dX7_laysDates_23 : decode cX7_laysDates 23 = .ok (.iload_n 1, 1) := by decide +kernel
theorem dX7_laysDates_24 : decode cX7_laysDates 24 = .ok (.iload_n 3, 1) := by decide +kernel
theorem dX7_laysDates_25 : decode cX7_laysDates 25 = .ok (.invokevirtual 177, 3) := by decide +kernel
theorem dX7_laysDates_28 : decode cX7_laysDates 28 = .ok (.ifCond .eq 17, 3) := by decide +kernel
theorem dX7_laysDates_31 : decode cX7_laysDates 31 = .ok (.iload_n 2, 1) := by decide +kernel
theorem dX7_laysDates_32 : decode cX7_laysDates 32 = .ok (.aload_n 0, 1) := by decide +kernel
theorem dX7_laysDates_33 : decode cX7_laysDates 33 = .ok (.getfield 53, 3) := by decide +kernel
theorem dX7_laysDates_36 : decode cX7_laysDates 36 = .ok (.iload_n 1, 1) := by decide +kernel
theorem dX7_laysDates_37 : decode cX7_laysDates 37 = .ok (.iaload, 1) := by decide +kernel
theorem dX7_laysDates_38 : decode cX7_laysDates 38 = .ok (.if_icmp .ge 7, 3) := by decide +kernel
theorem dX7_laysDates_41 : decode cX7_laysDates 41 = .ok (.iconst 1, 1) := by decide +kernel
theorem dX7_laysDates_42 : decode cX7_laysDates 42 = .ok (.goto 4, 3) := by decide +kernel
theorem dX7_laysDates_45 : decode cX7_laysDates 45 = .ok (.iconst 0, 1) := by decide +kernel
theorem dX7_laysDates_46 : decode cX7_laysDates 46 = .ok (.istore 4, 2) := by decide +kernel
theorem dX7_laysDates_48 : decode cX7_laysDates 48 = .ok (.iload_n 2, 1) := by decide +kernel
theorem dX7_laysDates_49 : decode cX7_laysDates 49 = .ok (.iload 4, 2) := by decide +kernel
theorem dX7_laysDates_51 : decode cX7_laysDates 51 = .ok (.ifCond .eq 7, 3) := by decide +kernel
theorem dX7_laysDates_54 : decode cX7_laysDates 54 = .ok (.iconst 1, 1) := by decide +kernel
theorem dX7_laysDates_55 : decode cX7_laysDates 55 = .ok (.goto 4, 3) := by decide +kernel
theorem dX7_laysDates_58 : decode cX7_laysDates 58 = .ok (.iconst 0, 1) := by decide +kernel
theorem dX7_laysDates_59 : decode cX7_laysDates 59 = .ok (.iadd, 1) := by decide +kernel
theorem dX7_laysDates_60 : decode cX7_laysDates 60 = .ok (.istore_n 2, 1) := by decide +kernel
theorem dX7_laysDates_61 : decode cX7_laysDates 61 = .ok (.aload_n 0, 1) := by decide +kernel
theorem dX7_laysDates_62 : decode cX7_laysDates 62 = .ok (.getfield 75, 3) := by decide +kernel
theorem dX7_laysDates_65 : decode cX7_laysDates 65 = .ok (.iload_n 1, 1) := by decide +kernel
theorem dX7_laysDates_66 : decode cX7_laysDates 66 = .ok (.dup2, 1) := by decide +kernel
theorem dX7_laysDates_67 : decode cX7_laysDates 67 = .ok (.laload, 1) := by decide +kernel
theorem dX7_laysDates_68 : decode cX7_laysDates 68 = .ok (.iload 4, 2) := by decide +kernel
theorem dX7_laysDates_70 : decode cX7_laysDates 70 = .ok (.ifCond .eq 22, 3) := by decide +kernel
theorem dX7_laysDates_73 : decode cX7_laysDates 73 = .ok (.aload_n 0, 1) := by decide +kernel
theorem dX7_laysDates_74 : decode cX7_laysDates 74 = .ok (.getfield 69, 3) := by decide +kernel
theorem dX7_laysDates_77 : decode cX7_laysDates 77 = .ok (.iload_n 1, 1) := by decide +kernel
theorem dX7_laysDates_78 : decode cX7_laysDates 78 = .ok (.laload, 1) := by decide +kernel
theorem dX7_laysDates_79 : decode cX7_laysDates 79 = .ok (.iload_n 3, 1) := by decide +kernel
theorem dX7_laysDates_80 : decode cX7_laysDates 80 = .ok (.invokestatic 180, 3) := by decide +kernel
theorem dX7_laysDates_83 : decode cX7_laysDates 83 = .ok (.ifCond .ne 9, 3) := by decide +kernel
theorem dX7_laysDates_86 : decode cX7_laysDates 86 = .ok (.lconst 1, 1) := by decide +kernel
theorem dX7_laysDates_87 : decode cX7_laysDates 87 = .ok (.iload_n 3, 1) := by decide +kernel
theorem dX7_laysDates_88 : decode cX7_laysDates 88 = .ok (.lshl, 1) := by decide +kernel
theorem dX7_laysDates_89 : decode cX7_laysDates 89 = .ok (.goto 4, 3) := by decide +kernel
theorem dX7_laysDates_92 : decode cX7_laysDates 92 = .ok (.lconst 0, 1) := by decide +kernel
theorem dX7_laysDates_93 : decode cX7_laysDates 93 = .ok (.lor, 1) := by decide +kernel
theorem dX7_laysDates_94 : decode cX7_laysDates 94 = .ok (.lastore, 1) := by decide +kernel
theorem dX7_laysDates_95 : decode cX7_laysDates 95 = .ok (.iinc 3 1, 3) := by decide +kernel
theorem dX7_laysDates_98 : decode cX7_laysDates 98 = .ok (.goto (-82), 3) := by decide +kernel
theorem dX7_laysDates_101 : decode cX7_laysDates 101 = .ok (.return_, 1) := by decide +kernel
theorem lk_X7_laysDates : LK yX7_laysDates cX7_laysDates 5 none 1 := ⟨qW_at 1502 (by decide +kernel) rfl, qW_at 78 (by decide +kernel) rfl, by decide, by decide, by decide +kernel⟩
theorem im_X7_laysDates : Cond.instanceMethod yX7_laysDates ∈ qW := qW_at 1501 (by decide +kernel) rfl
theorem se_X7_laysDates : Cond.selects RX7 yX7_laysDates yX7_laysDates ∈ qW := qW_at 33 (by decide +kernel) rfl
def F_X7_laysDates (this : Nat) (its_ : Int32) : QX Unit :=
  (xb (xb (xb (xp (some this)) fun v1 => xgr 8 23 v1) fun v5 => xb (xp its_) fun v6 => xb (xb (xb (xp (some this)) fun v2 => xgr 8 20 v2) fun v3 => xb (xp its_) fun v4 => xal v3 v4) fun v7 => xsal v5 v6 v7) fun _ =>
  (xb (xp (0 : Int32)) fun many_8 =>
  (xb (xp (0 : Int32)) fun k_9 =>
  (xb (xl 2000 (fun (s10 : Int32 × Int32) => (xb (xp s10.2) fun v11 => xb (xp (60 : Int32)) fun v12 => xp (decide (v11 < v12)))) (fun (s10 : Int32 × Int32) =>
  (xb (xb (xb (xb (xb (xp (some this)) fun v13 => xb (xp its_) fun v14 => xb (xp s10.2) fun v15 => xo 8 v13 fun q => F_X7_isOfRule q v14 v15) fun v16 => xp (decide (¬ v16 = 0))) fun v22 => if v22 then (xb (xp s10.1) fun v17 => xb (xb (xb (xp (some this)) fun v18 => xgr 8 16 v18) fun v19 => xb (xp its_) fun v20 => xai 0 v19 v20) fun v21 => xp (decide (v17 < v21))) else xp false) fun v23 => xp (b2i v23)) fun is_24 =>
  (xb (xb (xp s10.1) fun v27 => xb (xb (xb (xp is_24) fun v25 => xp (decide (¬ v25 = 0))) fun v26 => if v26 then (xp (1 : Int32)) else (xp (0 : Int32))) fun v28 => (xp (v27 + v28))) fun many_29 =>
  (xb (xb (xb (xp (some this)) fun v30 => xgr 8 23 v30) fun v43 => xb (xp its_) fun v44 => xb (xal v43 v44) fun v45 => xb (xb (xb (xb (xp is_24) fun v31 => xp (decide (¬ v31 = 0))) fun v39 => if v39 then (xb (xb (xb (xb (xb (xp (some this)) fun v32 => xgr 8 21 v32) fun v33 => xb (xp its_) fun v34 => xal v33 v34) fun v35 => xb (xp s10.2) fun v36 => F_X7_has v35 v36) fun v37 => xp (decide (¬ v37 = 0))) fun v38 => xp (!v38)) else xp false) fun v42 => if v42 then (xb (xp (1 : Int64)) fun v40 => xb (xp s10.2) fun v41 => (xp (v40 <<< (v41.toInt64 &&& 63)))) else (xp (0 : Int64))) fun v46 => xb (xp (v45 ||| v46)) fun v47 => xsal v43 v44 v47) fun _ =>
  (xp (many_29, (s10.2 + 1))))))) (many_8, k_9)) fun s48 =>
  (xp ())))))
set_option maxRecDepth 100000 in
set_option maxHeartbeats 4000000 in
theorem M_X7_laysDates (this : Nat) (its_ : Int32) : MM yX7_laysDates cX7_laysDates 5 none 1 23 0 0 encU [.ref this, .int its_] (F_X7_laysDates this its_) := by
  refine MM_of (env0 := [(0, va_rf (some this)), (1, .int its_)]) (by decide) (by exact Nat.le_of_ble_eq_true rfl) (by rfl) (fun k mm res X C hR hN hr hname h => ?_)
  have X : CX k cX7_laysDates RX7 := X
  have hT : TH k (fun e m' => res = (.error e, m')) := TH_of C
  have htr := C.2.2.2.1
  unfold F_X7_laysDates at h
  exact SB_go (T := fun e m' => res = (.error e, m')) (RET := fun v m' => res = (.ok v, m')) (SB_do (XE_3 wR wI (XE_1 (L_aload_n (r := (some this)) 0 X dX7_laysDates_0 rfl rfl) (O_gr (c := 8) (j := 23) X rfl inW7 (by decide) fl_X7_75 rfl dX7_laysDates_1)) (L_iload_n (x := its_) 1 X dX7_laysDates_4 rfl rfl) (XE_2 wR (XE_1 (L_aload_n (r := (some this)) 0 X dX7_laysDates_5 rfl rfl) (O_gr (c := 8) (j := 20) X rfl inW7 (by decide) fl_X7_65 rfl dX7_laysDates_6)) (L_iload_n (x := its_) 1 X dX7_laysDates_9 rfl rfl) (O_al X dX7_laysDates_10)) (O_sal X dX7_laysDates_11))
  (SB_let (L_iconst (v := 0) X dX7_laysDates_12 (by decide)) (S_istore_n (ev := fun many_8 => [(2, .int many_8), (0, va_rf (some this)), (1, .int its_)]) X dX7_laysDates_13 rfl (by rw [hN]; decide) (fun _ => rfl)) fun many_8 =>
  (SB_let (L_iconst (v := 0) X dX7_laysDates_14 (by decide)) (S_istore_n (ev := fun k_9 => [(3, .int k_9), (2, .int many_8), (0, va_rf (some this)), (1, .int its_)]) X dX7_laysDates_15 rfl (by rw [hN]; decide) (fun _ => rfl)) fun k_9 =>
  (SB_seq (ST_loop (σ := Int32 × Int32) (upd := (fun (s : Int32 × Int32) => [(3, .int s.2), (2, .int s.1), (0, va_rf (some this)), (1, .int its_)])) (s0 := (many_8, k_9)) (n := 2000) (fun mm a b h => GG_sub [0, 1, 2, 3] rfl h)
  (fun s10 => (CE_2 wI (L_iload_n (x := s10.2) 0 X dX7_laysDates_16 rfl rfl) (L_bipush (v := (60)) X dX7_laysDates_17 (by decide)) (C_lt_F X dX7_laysDates_19 (by decide))))
  (fun s10 => (ST_post (ST_let (XE_b2i (CE_and (CE_1 (XE_3 (pB := pI) wR wI (L_aload_n (r := (some this)) 2 X dX7_laysDates_22 rfl rfl) (L_iload_n (x := its_) 3 X dX7_laysDates_23 rfl rfl) (L_iload_n (x := s10.2) 0 X dX7_laysDates_24 rfl rfl) (fun v0 v1 v2 st mm a b hd hc hs h => g_callVo (st := st) (cI := 8) X hT htr rfl (fun q => M_X7_isOfRule q v1 v2) lk_X7_isOfRule im_X7_isOfRule se_X7_isOfRule ml_X7_177 rfl (by rw [hR]; exact ⟨Nat.le_of_ble_eq_true rfl, Nat.le_of_ble_eq_true rfl⟩) (Nat.le_trans hd (by decide)) ⟨hc, hs⟩ dX7_laysDates_25 h)) (Z_ne_F X dX7_laysDates_28 (by decide))) (CE_2 wI (L_iload_n (x := s10.1) 1 X dX7_laysDates_31 rfl rfl) (XE_2 wR (XE_1 (L_aload_n (r := (some this)) 2 X dX7_laysDates_32 rfl rfl) (O_gr (c := 8) (j := 16) X rfl inW7 (by decide) fl_X7_53 rfl dX7_laysDates_33)) (L_iload_n (x := its_) 3 X dX7_laysDates_36 rfl rfl) (O_ai X dX7_laysDates_37)) (C_lt_F X dX7_laysDates_38 (by decide)))) (S_b1 X dX7_laysDates_41 dX7_laysDates_42 (by decide)) (S_b0 X dX7_laysDates_45)) (S_istore (ev := fun is_24 => [(4, .int is_24), (3, .int s10.2), (2, .int s10.1), (0, va_rf (some this)), (1, .int its_)]) X dX7_laysDates_46 (by rw [hN]; decide) (fun _ => rfl)) fun is_24 =>
  (ST_let (XE_2 wI (L_iload_n (x := s10.1) 2 X dX7_laysDates_48 rfl rfl) (XE_tern (CE_1 (L_iload (x := is_24) 0 X dX7_laysDates_49 rfl) (Z_ne_F X dX7_laysDates_51 (by decide))) (L_iconst (v := 1) X dX7_laysDates_54 (by decide)) (S_goto X dX7_laysDates_55 (by decide)) (L_iconst (v := 0) X dX7_laysDates_58 (by decide))) (O_iadd X dX7_laysDates_59)) (S_istore_n (ev := fun many_29 => [(2, .int many_29), (4, .int is_24), (3, .int s10.2), (0, va_rf (some this)), (1, .int its_)]) X dX7_laysDates_60 rfl (by rw [hN]; decide) (fun _ => rfl)) fun many_29 =>
  (ST_do (XE_dup2 wL (XE_1 (L_aload_n (r := (some this)) 3 X dX7_laysDates_61 rfl rfl) (O_gr (c := 8) (j := 23) X rfl inW7 (by decide) fl_X7_75 rfl dX7_laysDates_62)) (L_iload_n (x := its_) 4 X dX7_laysDates_65 rfl rfl) (S_dup2 X dX7_laysDates_66) (O_al X dX7_laysDates_67) (XE_tern (CE_and (CE_1 (L_iload (x := is_24) 1 X dX7_laysDates_68 rfl) (Z_ne_F X dX7_laysDates_70 (by decide))) (CE_not (CE_1 (XE_2 (pB := pI) wL (XE_2 wR (XE_1 (L_aload_n (r := (some this)) 3 X dX7_laysDates_73 rfl rfl) (O_gr (c := 8) (j := 21) X rfl inW7 (by decide) fl_X7_69 rfl dX7_laysDates_74)) (L_iload_n (x := its_) 4 X dX7_laysDates_77 rfl rfl) (O_al X dX7_laysDates_78)) (L_iload_n (x := s10.2) 2 X dX7_laysDates_79 rfl rfl) (fun v0 v1 st mm a b hd hc hs h => g_callS (st := st) X hT htr (M_X7_has v0 v1) lk_X7_has st_X7_has ml_X7_180 rfl (by rw [hR]; exact ⟨Nat.le_of_ble_eq_true rfl, Nat.le_of_ble_eq_true rfl⟩) (Nat.le_trans hd (by decide)) ⟨hc, hs⟩ dX7_laysDates_80 h)) (Z_ne_T X dX7_laysDates_83 (by decide))))) (XE_2 wL (L_lconst (v := 1) X dX7_laysDates_86 (by decide)) (L_iload_n (x := s10.2) 2 X dX7_laysDates_87 rfl rfl) (O_lshl X dX7_laysDates_88)) (S_goto X dX7_laysDates_89 (by decide)) (L_lconst (v := 0) X dX7_laysDates_92 (by decide))) (O_lor X dX7_laysDates_93) (O_sal X dX7_laysDates_94))
  (ST_pre (env' := [(3, .int (s10.2 + 1)), (2, .int many_29), (4, .int is_24), (0, va_rf (some this)), (1, .int its_)]) (S_iinc 2 X dX7_laysDates_95 rfl rfl (by rw [hN]; decide) rfl)
  (ST_done (upd := (fun (s : Int32 × Int32) => [(3, .int s.2), (2, .int s.1), (0, va_rf (some this)), (1, .int its_)])) (s := (many_29, (s10.2 + 1))) [0, 1, 3, 4] rfl))))) fun _ mm a b h => S_goto X dX7_laysDates_98 (by decide) [] mm a b h))) fun s48 =>
  (SB_retU X C hr dX7_laysDates_101))))) h (by rw [hR]; decide) (by rw [hR]; decide)
