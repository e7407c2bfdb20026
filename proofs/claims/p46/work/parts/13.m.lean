theorem dX6_add_0 : decode cX6_add 0 = .ok (.aload_n 0, 1) := by decide +kernel
theorem dX6_add_1 : decode cX6_add 1 = .ok (.iload_n 1, 1) := by decide +kernel
theorem dX6_add_2 : decode cX6_add 2 = .ok (.invokevirtual 100, 3) := by decide +kernel
theorem dX6_add_5 : decode cX6_add 5 = .ok (.astore_n 3, 1) := by decide +kernel
theorem dX6_add_6 : decode cX6_add 6 = .ok (.iload_n 2, 1) := by decide +kernel
theorem dX6_add_7 : decode cX6_add 7 = .ok (.invokestatic 55, 3) := by decide +kernel
theorem dX6_add_10 : decode cX6_add 10 = .ok (.aload_n 3, 1) := by decide +kernel
theorem dX6_add_11 : decode cX6_add 11 = .ok (.getfield 104, 3) := by decide +kernel
theorem dX6_add_14 : decode cX6_add 14 = .ok (.getfield 108, 3) := by decide +kernel
theorem dX6_add_17 : decode cX6_add 17 = .ok (.ifCond .ne 18, 3) := by decide +kernel
theorem dX6_add_20 : decode cX6_add 20 = .ok (.aload_n 3, 1) := by decide +kernel
theorem dX6_add_21 : decode cX6_add 21 = .ok (.getfield 104, 3) := by decide +kernel
theorem dX6_add_24 : decode cX6_add 24 = .ok (.iload_n 2, 1) := by decide +kernel
theorem dX6_add_25 : decode cX6_add 25 = .ok (.invokevirtual 123, 3) := by decide +kernel
theorem dX6_add_28 : decode cX6_add 28 = .ok (.ifCond .ne 7, 3) := by decide +kernel
theorem dX6_add_31 : decode cX6_add 31 = .ok (.iconst 1, 1) := by decide +kernel
theorem dX6_add_32 : decode cX6_add 32 = .ok (.goto 4, 3) := by decide +kernel
theorem dX6_add_35 : decode cX6_add 35 = .ok (.iconst 0, 1) := by decide +kernel
theorem dX6_add_36 : decode cX6_add 36 = .ok (.invokestatic 81, 3) := by decide +kernel
theorem dX6_add_39 : decode cX6_add 39 = .ok (.aload_n 0, 1) := by decide +kernel
theorem dX6_add_40 : decode cX6_add 40 = .ok (.aload_n 3, 1) := by decide +kernel
theorem dX6_add_41 : decode cX6_add 41 = .ok (.aload_n 3, 1) := by decide +kernel
theorem dX6_add_42 : decode cX6_add 42 = .ok (.getfield 104, 3) := by decide +kernel
theorem dX6_add_45 : decode cX6_add 45 = .ok (.iload_n 2, 1) := by decide +kernel
theorem dX6_add_46 : decode cX6_add 46 = .ok (.invokevirtual 131, 3) := by decide +kernel
theorem dX6_add_49 : decode cX6_add 49 = .ok (.invokevirtual 116, 3) := by decide +kernel
theorem dX6_add_52 : decode cX6_add 52 = .ok (.ireturn, 1) := by decide +kernel
theorem lk_X6_add : LK yX6_add cX6_add 4 (some .int) 2 := ⟨qW_at 1116 (by decide +kernel) rfl, qW_at 29 (by decide +kernel) rfl, by decide, by decide, by decide +kernel⟩
theorem im_X6_add : Cond.instanceMethod yX6_add ∈ qW := qW_at 1114 (by decide +kernel) rfl
theorem se_X6_add : Cond.selects RX6 yX6_add yX6_add ∈ qW := qW_at 1115 (by decide +kernel) rfl
def F_X6_add (this : Nat) (meeting_ : Int32) (day_ : Int32) : QX Int32 :=
  (xb (xb (xp (some this)) fun v1 => xb (xp meeting_) fun v2 => xo 7 v1 fun q => F_X6_meetingNumbered q v2) fun changed_3 =>
  (xb (xb (xp day_) fun v4 => F_X6_needDay v4) fun _ =>
  (xb (xb (xb (xb (xb (xb (xb (xb (xp changed_3) fun v5 => xgr 1 2 v5) fun v6 => xgi 5 16 v6) fun v7 => xp (decide (¬ v7 = 0))) fun v8 => xp (!v8)) fun v14 => if v14 then (xb (xb (xb (xb (xp changed_3) fun v9 => xgr 1 2 v9) fun v10 => xb (xp day_) fun v11 => xo 5 v10 fun q => F_X4_isDate q v11) fun v12 => xp (decide (¬ v12 = 0))) fun v13 => xp (!v13)) else xp false) fun v15 => xp (b2i v15)) fun v16 => F_X6_needState v16) fun _ =>
  (xb (xp (some this)) fun v20 => xb (xp changed_3) fun v21 => xb (xb (xb (xp changed_3) fun v17 => xgr 1 2 v17) fun v18 => xb (xp day_) fun v19 => xo 5 v18 fun q => F_X4_withDate q v19) fun v22 => xo 7 v20 fun q => F_X6_putVersion q v21 v22))))
set_option maxRecDepth 100000 in
set_option maxHeartbeats 4000000 in
theorem M_X6_add (this : Nat) (meeting_ : Int32) (day_ : Int32) : MM yX6_add cX6_add 4 (some .int) 8 121 6 159 encI [.ref this, .int meeting_, .int day_] (F_X6_add this meeting_ day_) := by
  refine MM_of (env0 := [(0, va_rf (some this)), (1, .int meeting_), (2, .int day_)]) (by decide) (by exact Nat.le_of_ble_eq_true rfl) (by rfl) (fun k mm res X C hR hN hr hname h => ?_)
  have X : CX k cX6_add RX6 := X
  have hT : TH k (fun e m' => res = (.error e, m')) := TH_of C
  have htr := C.2.2.2.1
  unfold F_X6_add at h
  exact SB_go (T := fun e m' => res = (.error e, m')) (RET := fun v m' => res = (.ok v, m')) (SB_let (XE_2 (pB := pR) wR (L_aload_n (r := (some this)) 0 X dX6_add_0 rfl rfl) (L_iload_n (x := meeting_) 1 X dX6_add_1 rfl rfl) (fun v0 v1 st mm a b hd hc hs h => g_callVo (st := st) (cI := 7) X hT htr rfl (fun q => M_X6_meetingNumbered q v1) lk_X6_meetingNumbered im_X6_meetingNumbered se_X6_meetingNumbered ml_X6_100 rfl (by rw [hR]; exact ⟨Nat.le_of_ble_eq_true rfl, Nat.le_of_ble_eq_true rfl⟩) (Nat.le_trans hd (by decide)) ⟨hc, hs⟩ dX6_add_2 h)) (S_astore_n (ev := fun changed_3 => [(3, va_rf changed_3), (0, va_rf (some this)), (1, .int meeting_), (2, .int day_)]) X dX6_add_5 rfl (by rw [hN]; decide) (fun _ => rfl)) fun changed_3 =>
  (SB_do (XE_1 (pB := pU)  (L_iload_n (x := day_) 3 X dX6_add_6 rfl rfl) (fun v0 st mm a b hd hc hs h => g_callS (st := st) X hT htr (M_X6_needDay v0) lk_X6_needDay st_X6_needDay ml_X6_55 rfl (by rw [hR]; exact ⟨Nat.le_of_ble_eq_true rfl, Nat.le_of_ble_eq_true rfl⟩) (Nat.le_trans hd (by decide)) ⟨hc, hs⟩ dX6_add_7 h))
  (SB_do (XE_1 (pB := pU)  (XE_b2i (CE_and (CE_not (CE_1 (XE_1 (XE_1 (L_aload_n (r := changed_3) 0 X dX6_add_10 rfl rfl) (O_gr (c := 1) (j := 2) X rfl inW0 (by decide) fl_X6_104 rfl dX6_add_11)) (O_gi (c := 5) (j := 16) X rfl inW4 (by decide) fl_X6_108 rfl dX6_add_14)) (Z_ne_T X dX6_add_17 (by decide)))) (CE_not (CE_1 (XE_2 (pB := pI) wR (XE_1 (L_aload_n (r := changed_3) 0 X dX6_add_20 rfl rfl) (O_gr (c := 1) (j := 2) X rfl inW0 (by decide) fl_X6_104 rfl dX6_add_21)) (L_iload_n (x := day_) 3 X dX6_add_24 rfl rfl) (fun v0 v1 st mm a b hd hc hs h => g_callVo (st := st) (cI := 5) X hT htr rfl (fun q => M_X4_isDate q v1) lk_X4_isDate im_X4_isDate se_X4_isDate ml_X6_123 rfl (by rw [hR]; exact ⟨Nat.le_of_ble_eq_true rfl, Nat.le_of_ble_eq_true rfl⟩) (Nat.le_trans hd (by decide)) ⟨hc, hs⟩ dX6_add_25 h)) (Z_ne_T X dX6_add_28 (by decide))))) (S_b1 X dX6_add_31 dX6_add_32 (by decide)) (S_b0 X dX6_add_35)) (fun v0 st mm a b hd hc hs h => g_callS (st := st) X hT htr (M_X6_needState v0) lk_X6_needState st_X6_needState ml_X6_81 rfl (by rw [hR]; exact ⟨Nat.le_of_ble_eq_true rfl, Nat.le_of_ble_eq_true rfl⟩) (Nat.le_trans hd (by decide)) ⟨hc, hs⟩ dX6_add_36 h))
  (SB_retI X C hr dX6_add_52 (XE_3 (pB := pI) wR wR (L_aload_n (r := (some this)) 1 X dX6_add_39 rfl rfl) (L_aload_n (r := changed_3) 0 X dX6_add_40 rfl rfl) (XE_2 (pB := pR) wR (XE_1 (L_aload_n (r := changed_3) 0 X dX6_add_41 rfl rfl) (O_gr (c := 1) (j := 2) X rfl inW0 (by decide) fl_X6_104 rfl dX6_add_42)) (L_iload_n (x := day_) 3 X dX6_add_45 rfl rfl) (fun v0 v1 st mm a b hd hc hs h => g_callVo (st := st) (cI := 5) X hT htr rfl (fun q => M_X4_withDate q v1) lk_X4_withDate im_X4_withDate se_X4_withDate ml_X6_131 rfl (by rw [hR]; exact ⟨Nat.le_of_ble_eq_true rfl, Nat.le_of_ble_eq_true rfl⟩) (Nat.le_trans hd (by decide)) ⟨hc, hs⟩ dX6_add_46 h)) (fun v0 v1 v2 st mm a b hd hc hs h => g_callVo (st := st) (cI := 7) X hT htr rfl (fun q => M_X6_putVersion q v1 v2) lk_X6_putVersion im_X6_putVersion se_X6_putVersion ml_X6_116 rfl (by rw [hR]; exact ⟨Nat.le_of_ble_eq_true rfl, Nat.le_of_ble_eq_true rfl⟩) (Nat.le_trans hd (by decide)) ⟨hc, hs⟩ dX6_add_49 h)))))) h (by rw [hR]; decide) (by rw [hR]; decide)
theorem dX6_needDateHour_0 : decode cX6_needDateHour 0 = .ok (.iload_n 0, 1) := by decide +kernel
theorem dX6_needDateHour_1 : decode cX6_needDateHour 1 = .ok (.iconst 0, 1) := by decide +kernel
theorem dX6_needDateHour_2 : decode cX6_needDateHour 2 = .ok (.sipush 1439, 3) := by decide +kernel
theorem dX6_needDateHour_5 : decode cX6_needDateHour 5 = .ok (.invokestatic 47, 3) := by decide +kernel
theorem dX6_needDateHour_8 : decode cX6_needDateHour 8 = .ok (.return_, 1) := by decide +kernel
theorem lk_X6_needDateHour : LK yX6_needDateHour cX6_needDateHour 1 none 1 := ⟨qW_at 1134 (by decide +kernel) rfl, qW_at 29 (by decide +kernel) rfl, by decide, by decide, by decide +kernel⟩
theorem st_X6_needDateHour : Cond.static yX6_needDateHour ∈ qW := qW_at 1133 (by decide +kernel) rfl
def F_X6_needDateHour (local_ : Int32) : QX Unit :=
  (xb (xb (xp local_) fun v1 => xb (xp (0 : Int32)) fun v2 => xb (xp (1439 : Int32)) fun v3 => F_X6_needRange v1 v2 v3) fun _ =>
  (xp ()))
set_option maxRecDepth 100000 in
set_option maxHeartbeats 4000000 in
theorem M_X6_needDateHour (local_ : Int32) : MM yX6_needDateHour cX6_needDateHour 1 none 8 123 1 6 encU [.int local_] (F_X6_needDateHour local_) := by
  refine MM_of (env0 := [(0, .int local_)]) (by decide) (by exact Nat.le_of_ble_eq_true rfl) (by rfl) (fun k mm res X C hR hN hr hname h => ?_)
  have X : CX k cX6_needDateHour RX6 := X
  have hT : TH k (fun e m' => res = (.error e, m')) := TH_of C
  have htr := C.2.2.2.1
  unfold F_X6_needDateHour at h
  exact SB_go (T := fun e m' => res = (.error e, m')) (RET := fun v m' => res = (.ok v, m')) (SB_do (XE_3 (pB := pU) wI wI (L_iload_n (x := local_) 0 X dX6_needDateHour_0 rfl rfl) (L_iconst (v := 0) X dX6_needDateHour_1 (by decide)) (L_sipush (v := (1439)) X dX6_needDateHour_2 (by decide)) (fun v0 v1 v2 st mm a b hd hc hs h => g_callS (st := st) X hT htr (M_X6_needRange v0 v1 v2) lk_X6_needRange st_X6_needRange ml_X6_47 rfl (by rw [hR]; exact ⟨Nat.le_of_ble_eq_true rfl, Nat.le_of_ble_eq_true rfl⟩) (Nat.le_trans hd (by decide)) ⟨hc, hs⟩ dX6_needDateHour_5 h))
  (SB_retU X C hr dX6_needDateHour_8)) h (by rw [hR]; decide) (by rw [hR]; decide)
theorem dX6_move_0 : decode cX6_move 0 = .ok (.aload_n 0, 1) := by decide +kernel
theorem dX6_move_1 : decode cX6_move 1 = .ok (.iload_n 1, 1) := by decide +kernel
theorem dX6_move_2 : decode cX6_move 2 = .ok (.invokevirtual 100, 3) := by decide +kernel
theorem dX6_move_5 : decode cX6_move 5 = .ok (.astore 4, 2) := by decide +kernel
theorem dX6_move_7 : decode cX6_move 7 = .ok (.iload_n 2, 1) := by decide +kernel
theorem dX6_move_8 : decode cX6_move 8 = .ok (.invokestatic 55, 3) := by decide +kernel
theorem dX6_move_11 : decode cX6_move 11 = .ok (.iload_n 3, 1) := by decide +kernel
theorem dX6_move_12 : decode cX6_move 12 = .ok (.invokestatic 134, 3) := by decide +kernel
theorem dX6_move_15 : decode cX6_move 15 = .ok (.aload 4, 2) := by decide +kernel
theorem dX6_move_17 : decode cX6_move 17 = .ok (.getfield 104, 3) := by decide +kernel
theorem dX6_move_20 : decode cX6_move 20 = .ok (.getfield 108, 3) := by decide +kernel
theorem dX6_move_23 : decode cX6_move 23 = .ok (.ifCond .ne 19, 3) := by decide +kernel
theorem dX6_move_26 : decode cX6_move 26 = .ok (.aload 4, 2) := by decide +kernel
theorem dX6_move_28 : decode cX6_move 28 = .ok (.getfield 104, 3) := by decide +kernel
theorem dX6_move_31 : decode cX6_move 31 = .ok (.iload_n 2, 1) := by decide +kernel
theorem dX6_move_32 : decode cX6_move 32 = .ok (.invokevirtual 123, 3) := by decide +kernel
theorem dX6_move_35 : decode cX6_move 35 = .ok (.ifCond .eq 7, 3) := by decide +kernel
theorem dX6_move_38 : decode cX6_move 38 = .ok (.iconst 1, 1) := by decide +kernel
theorem dX6_move_39 : decode cX6_move 39 = .ok (.goto 4, 3) := by decide +kernel
theorem dX6_move_42 : decode cX6_move 42 = .ok (.iconst 0, 1) := by decide +kernel
theorem dX6_move_43 : decode cX6_move 43 = .ok (.invokestatic 81, 3) := by decide +kernel
theorem dX6_move_46 : decode cX6_move 46 = .ok (.aload_n 0, 1) := by decide +kernel
theorem dX6_move_47 : decode cX6_move 47 = .ok (.aload 4, 2) := by decide +kernel
theorem dX6_move_49 : decode cX6_move 49 = .ok (.aload 4, 2) := by decide +kernel
theorem dX6_move_51 : decode cX6_move 51 = .ok (.getfield 104, 3) := by decide +kernel
theorem dX6_move_54 : decode cX6_move 54 = .ok (.iload_n 2, 1) := by decide +kernel
theorem dX6_move_55 : decode cX6_move 55 = .ok (.iload_n 3, 1) := by decide +kernel
theorem dX6_move_56 : decode cX6_move 56 = .ok (.invokevirtual 137, 3) := by decide +kernel
theorem dX6_move_59 : decode cX6_move 59 = .ok (.invokevirtual 116, 3) := by decide +kernel
theorem dX6_move_62 : decode cX6_move 62 = .ok (.ireturn, 1) := by decide +kernel
theorem lk_X6_move : LK yX6_move cX6_move 5 (some .int) 3 := ⟨qW_at 1131 (by decide +kernel) rfl, qW_at 29 (by decide +kernel) rfl, by decide, by decide, by decide +kernel⟩
theorem im_X6_move : Cond.instanceMethod yX6_move ∈ qW := qW_at 1129 (by decide +kernel) rfl
theorem se_X6_move : Cond.selects RX6 yX6_move yX6_move ∈ qW := qW_at 1130 (by decide +kernel) rfl
def F_X6_move (this : Nat) (meeting_ : Int32) (day_ : Int32) (local_ : Int32) : QX Int32 :=
  (xb (xb (xp (some this)) fun v1 => xb (xp meeting_) fun v2 => xo 7 v1 fun q => F_X6_meetingNumbered q v2) fun changed_3 =>
  (xb (xb (xp day_) fun v4 => F_X6_needDay v4) fun _ =>
  (xb (xb (xp local_) fun v5 => F_X6_needDateHour v5) fun _ =>
  (xb (xb (xb (xb (xb (xb (xb (xb (xp changed_3) fun v6 => xgr 1 2 v6) fun v7 => xgi 5 16 v7) fun v8 => xp (decide (¬ v8 = 0))) fun v9 => xp (!v9)) fun v14 => if v14 then (xb (xb (xb (xp changed_3) fun v10 => xgr 1 2 v10) fun v11 => xb (xp day_) fun v12 => xo 5 v11 fun q => F_X4_isDate q v12) fun v13 => xp (decide (¬ v13 = 0))) else xp false) fun v15 => xp (b2i v15)) fun v16 => F_X6_needState v16) fun _ =>
  (xb (xp (some this)) fun v21 => xb (xp changed_3) fun v22 => xb (xb (xb (xp changed_3) fun v17 => xgr 1 2 v17) fun v18 => xb (xp day_) fun v19 => xb (xp local_) fun v20 => xo 5 v18 fun q => F_X4_withMove q v19 v20) fun v23 => xo 7 v21 fun q => F_X6_putVersion q v22 v23)))))
set_option maxRecDepth 100000 in
set_option maxHeartbeats 4000000 in
theorem M_X6_move (this : Nat) (meeting_ : Int32) (day_ : Int32) (local_ : Int32) : MM yX6_move cX6_move 5 (some .int) 9 143 7 161 encI [.ref this, .int meeting_, .int day_, .int local_] (F_X6_move this meeting_ day_ local_) := by
  refine MM_of (env0 := [(0, va_rf (some this)), (1, .int meeting_), (2, .int day_), (3, .int local_)]) (by decide) (by exact Nat.le_of_ble_eq_true rfl) (by rfl) (fun k mm res X C hR hN hr hname h => ?_)
  have X : CX k cX6_move RX6 := X
  have hT : TH k (fun e m' => res = (.error e, m')) := TH_of C
  have htr := C.2.2.2.1
  unfold F_X6_move at h
  exact SB_go (T := fun e m' => res = (.error e, m')) (RET := fun v m' => res = (.ok v, m')) (SB_let (XE_2 (pB := pR) wR (L_aload_n (r := (some this)) 0 X dX6_move_0 rfl rfl) (L_iload_n (x := meeting_) 1 X dX6_move_1 rfl rfl) (fun v0 v1 st mm a b hd hc hs h => g_callVo (st := st) (cI := 7) X hT htr rfl (fun q => M_X6_meetingNumbered q v1) lk_X6_meetingNumbered im_X6_meetingNumbered se_X6_meetingNumbered ml_X6_100 rfl (by rw [hR]; exact ⟨Nat.le_of_ble_eq_true rfl, Nat.le_of_ble_eq_true rfl⟩) (Nat.le_trans hd (by decide)) ⟨hc, hs⟩ dX6_move_2 h)) (S_astore (ev := fun changed_3 => [(4, va_rf changed_3), (0, va_rf (some this)), (1, .int meeting_), (2, .int day_), (3, .int local_)]) X dX6_move_5 (by rw [hN]; decide) (fun _ => rfl)) fun changed_3 =>
  (SB_do (XE_1 (pB := pU)  (L_iload_n (x := day_) 3 X dX6_move_7 rfl rfl) (fun v0 st mm a b hd hc hs h => g_callS (st := st) X hT htr (M_X6_needDay v0) lk_X6_needDay st_X6_needDay ml_X6_55 rfl (by rw [hR]; exact ⟨Nat.le_of_ble_eq_true rfl, Nat.le_of_ble_eq_true rfl⟩) (Nat.le_trans hd (by decide)) ⟨hc, hs⟩ dX6_move_8 h))
  (SB_do (XE_1 (pB := pU)  (L_iload_n (x := local_) 4 X dX6_move_11 rfl rfl) (fun v0 st mm a b hd hc hs h => g_callS (st := st) X hT htr (M_X6_needDateHour v0) lk_X6_needDateHour st_X6_needDateHour ml_X6_134 rfl (by rw [hR]; exact ⟨Nat.le_of_ble_eq_true rfl, Nat.le_of_ble_eq_true rfl⟩) (Nat.le_trans hd (by decide)) ⟨hc, hs⟩ dX6_move_12 h))
  (SB_do (XE_1 (pB := pU)  (XE_b2i (CE_and (CE_not (CE_1 (XE_1 (XE_1 (L_aload (r := changed_3) 0 X dX6_move_15 rfl) (O_gr (c := 1) (j := 2) X rfl inW0 (by decide) fl_X6_104 rfl dX6_move_17)) (O_gi (c := 5) (j := 16) X rfl inW4 (by decide) fl_X6_108 rfl dX6_move_20)) (Z_ne_T X dX6_move_23 (by decide)))) (CE_1 (XE_2 (pB := pI) wR (XE_1 (L_aload (r := changed_3) 0 X dX6_move_26 rfl) (O_gr (c := 1) (j := 2) X rfl inW0 (by decide) fl_X6_104 rfl dX6_move_28)) (L_iload_n (x := day_) 3 X dX6_move_31 rfl rfl) (fun v0 v1 st mm a b hd hc hs h => g_callVo (st := st) (cI := 5) X hT htr rfl (fun q => M_X4_isDate q v1) lk_X4_isDate im_X4_isDate se_X4_isDate ml_X6_123 rfl (by rw [hR]; exact ⟨Nat.le_of_ble_eq_true rfl, Nat.le_of_ble_eq_true rfl⟩) (Nat.le_trans hd (by decide)) ⟨hc, hs⟩ dX6_move_32 h)) (Z_ne_F X dX6_move_35 (by decide)))) (S_b1 X dX6_move_38 dX6_move_39 (by decide)) (S_b0 X dX6_move_42)) (fun v0 st mm a b hd hc hs h => g_callS (st := st) X hT htr (M_X6_needState v0) lk_X6_needState st_X6_needState ml_X6_81 rfl (by rw [hR]; exact ⟨Nat.le_of_ble_eq_true rfl, Nat.le_of_ble_eq_true rfl⟩) (Nat.le_trans hd (by decide)) ⟨hc, hs⟩ dX6_move_43 h))
  (SB_retI X C hr dX6_move_62 (XE_3 (pB := pI) wR wR (L_aload_n (r := (some this)) 1 X dX6_move_46 rfl rfl) (L_aload (r := changed_3) 0 X dX6_move_47 rfl) (XE_3 (pB := pR) wR wI (XE_1 (L_aload (r := changed_3) 0 X dX6_move_49 rfl) (O_gr (c := 1) (j := 2) X rfl inW0 (by decide) fl_X6_104 rfl dX6_move_51)) (L_iload_n (x := day_) 3 X dX6_move_54 rfl rfl) (L_iload_n (x := local_) 4 X dX6_move_55 rfl rfl) (fun v0 v1 v2 st mm a b hd hc hs h => g_callVo (st := st) (cI := 5) X hT htr rfl (fun q => M_X4_withMove q v1 v2) lk_X4_withMove im_X4_withMove se_X4_withMove ml_X6_137 rfl (by rw [hR]; exact ⟨Nat.le_of_ble_eq_true rfl, Nat.le_of_ble_eq_true rfl⟩) (Nat.le_trans hd (by decide)) ⟨hc, hs⟩ dX6_move_56 h)) (fun v0 v1 v2 st mm a b hd hc hs h => g_callVo (st := st) (cI := 7) X hT htr rfl (fun q => M_X6_putVersion q v1 v2) lk_X6_putVersion im_X6_putVersion se_X6_putVersion ml_X6_116 rfl (by rw [hR]; exact ⟨Nat.le_of_ble_eq_true rfl, Nat.le_of_ble_eq_true rfl⟩) (Nat.le_trans hd (by decide)) ⟨hc, hs⟩ dX6_move_59 h))))))) h (by rw [hR]; decide) (by rw [hR]; decide)
theorem dX6_invite_0 : decode cX6_invite 0 = .ok (.aload_n 0, 1) := by decide +kernel
theorem dX6_invite_1 : decode cX6_invite 1 = .ok (.iload_n 1, 1) := by decide +kernel
theorem dX6_invite_2 : decode cX6_invite 2 = .ok (.invokevirtual 100, 3) := by decide +kernel
theorem dX6_invite_5 : decode cX6_invite 5 = .ok (.astore 4, 2) := by decide +kernel
theorem dX6_invite_7 : decode cX6_invite 7 = .ok (.iload_n 2, 1) := by decide +kernel
theorem dX6_invite_8 : decode cX6_invite 8 = .ok (.invokestatic 72, 3) := by decide +kernel
theorem dX6_invite_11 : decode cX6_invite 11 = .ok (.iload_n 2, 1) := by decide +kernel
theorem dX6_invite_12 : decode cX6_invite 12 = .ok (.aload 4, 2) := by decide +kernel
theorem dX6_invite_14 : decode cX6_invite 14 = .ok (.getfield 141, 3) := by decide +kernel
theorem dX6_invite_17 : decode cX6_invite 17 = .ok (.if_icmp .eq 7, 3) := by decide +kernel
theorem dX6_invite_20 : decode cX6_invite 20 = .ok (.iconst 1, 1) := by decide +kernel
theorem dX6_invite_21 : decode cX6_invite 21 = .ok (.goto 4, 3) := by decide +kernel
theorem dX6_invite_24 : decode cX6_invite 24 = .ok (.iconst 0, 1) := by decide +kernel
theorem dX6_invite_25 : decode cX6_invite 25 = .ok (.invokestatic 144, 3) := by decide +kernel
theorem dX6_invite_28 : decode cX6_invite 28 = .ok (.aload 4, 2) := by decide +kernel
theorem dX6_invite_30 : decode cX6_invite 30 = .ok (.getfield 104, 3) := by decide +kernel
theorem dX6_invite_33 : decode cX6_invite 33 = .ok (.astore 5, 2) := by decide +kernel
theorem dX6_invite_35 : decode cX6_invite 35 = .ok (.aload 5, 2) := by decide +kernel
theorem dX6_invite_37 : decode cX6_invite 37 = .ok (.getfield 108, 3) := by decide +kernel
theorem dX6_invite_40 : decode cX6_invite 40 = .ok (.ifCond .ne 31, 3) := by decide +kernel
theorem dX6_invite_43 : decode cX6_invite 43 = .ok (.iload_n 3, 1) := by decide +kernel
theorem dX6_invite_44 : decode cX6_invite 44 = .ok (.ifCond .eq 11, 3) := by decide +kernel
theorem dX6_invite_47 : decode cX6_invite 47 = .ok (.aload 5, 2) := by decide +kernel
theorem dX6_invite_49 : decode cX6_invite 49 = .ok (.getfield 147, 3) := by decide +kernel
theorem dX6_invite_52 : decode cX6_invite 52 = .ok (.goto 8, 3) := by decide +kernel
theorem dX6_invite_55 : decode cX6_invite 55 = .ok (.aload 5, 2) := by decide +kernel
theorem dX6_invite_57 : decode cX6_invite 57 = .ok (.getfield 150, 3) := by decide +kernel
theorem dX6_invite_60 : decode cX6_invite 60 = .ok (.iload_n 2, 1) := by decide +kernel
theorem dX6_invite_61 : decode cX6_invite 61 = .ok (.invokestatic 153, 3) := by decide +kernel
theorem dX6_invite_64 : decode cX6_invite 64 = .ok (.ifCond .ne 7, 3) := by decide +kernel
theorem dX6_invite_67 : decode cX6_invite 67 = .ok (.iconst 1, 1) := by decide +kernel
theorem dX6_invite_68 : decode cX6_invite 68 = .ok (.goto 4, 3) := by decide +kernel
theorem dX6_invite_71 : decode cX6_invite 71 = .ok (.iconst 0, 1) := by decide +kernel
theorem dX6_invite_72 : decode cX6_invite 72 = .ok (.invokestatic 81, 3) := by decide +kernel
theorem dX6_invite_75 : decode cX6_invite 75 = .ok (.aload_n 0, 1) := by decide +kernel
theorem dX6_invite_76 : decode cX6_invite 76 = .ok (.aload 4, 2) := by decide +kernel
theorem dX6_invite_78 : decode cX6_invite 78 = .ok (.iload_n 3, 1) := by decide +kernel
theorem dX6_invite_79 : decode cX6_invite 79 = .ok (.ifCond .eq 12, 3) := by decide +kernel
theorem dX6_invite_82 : decode cX6_invite 82 = .ok (.aload 5, 2) := by decide +kernel
theorem dX6_invite_84 : decode cX6_invite 84 = .ok (.iload_n 2, 1) := by decide +kernel
theorem dX6_invite_85 : decode cX6_invite 85 = .ok (.invokevirtual 157, 3) := by decide +kernel
theorem dX6_invite_88 : decode cX6_invite 88 = .ok (.goto 9, 3) := by decide +kernel
theorem dX6_invite_91 : decode cX6_invite 91 = .ok (.aload 5, 2) := by decide +kernel
theorem dX6_invite_93 : decode cX6_invite 93 = .ok (.iload_n 2, 1) := by decide +kernel
theorem dX6_invite_94 : decode cX6_invite 94 = .ok (.invokevirtual 160, 3) := by decide +kernel
theorem dX6_invite_97 : decode cX6_invite 97 = .ok (.invokevirtual 116, 3) := by decide +kernel
theorem dX6_invite_100 : decode cX6_invite 100 = .ok (.ireturn, 1) := by decide +kernel
theorem lk_X6_invite : LK yX6_invite cX6_invite 6 (some .int) 3 := ⟨qW_at 1145 (by decide +kernel) rfl, qW_at 29 (by decide +kernel) rfl, by decide, by decide, by decide +kernel⟩
theorem im_X6_invite : Cond.instanceMethod yX6_invite ∈ qW := qW_at 1143 (by decide +kernel) rfl
theorem se_X6_invite : Cond.selects RX6 yX6_invite yX6_invite ∈ qW := qW_at 1144 (by decide +kernel) rfl
def F_X6_invite (this : Nat) (meeting_ : Int32) (person_ : Int32) (isInvited_ : Int32) : QX Int32 :=
  (xb (xb (xp (some this)) fun v1 => xb (xp meeting_) fun v2 => xo 7 v1 fun q => F_X6_meetingNumbered q v2) fun changed_3 =>
  (xb (xb (xp person_) fun v4 => F_X6_needPerson v4) fun _ =>
  (xb (xb (xb (xb (xp person_) fun v5 => xb (xb (xp changed_3) fun v6 => xgi 1 1 v6) fun v7 => xp (decide (¬ v5 = v7))) fun v8 => xp (b2i v8)) fun v9 => F_X6_needArgument v9) fun _ =>
  (xb (xb (xp changed_3) fun v10 => xgr 1 2 v10) fun now_11 =>
  (xb (xb (xb (xb (xb (xb (xb (xp now_11) fun v12 => xgi 5 16 v12) fun v13 => xp (decide (¬ v13 = 0))) fun v14 => xp (!v14)) fun v23 => if v23 then (xb (xb (xb (xb (xb (xp isInvited_) fun v15 => xp (decide (¬ v15 = 0))) fun v18 => if v18 then (xb (xp now_11) fun v16 => xgi 5 14 v16) else (xb (xp now_11) fun v17 => xgi 5 15 v17)) fun v19 => xb (xp person_) fun v20 => F_X6_isIn v19 v20) fun v21 => xp (decide (¬ v21 = 0))) fun v22 => xp (!v22)) else xp false) fun v24 => xp (b2i v24)) fun v25 => F_X6_needState v25) fun _ =>
  (xb (xp (some this)) fun v32 => xb (xp changed_3) fun v33 => xb (xb (xb (xp isInvited_) fun v26 => xp (decide (¬ v26 = 0))) fun v31 => if v31 then (xb (xp now_11) fun v27 => xb (xp person_) fun v28 => xo 5 v27 fun q => F_X4_withInvited q v28) else (xb (xp now_11) fun v29 => xb (xp person_) fun v30 => xo 5 v29 fun q => F_X4_withLeftOut q v30)) fun v34 => xo 7 v32 fun q => F_X6_putVersion q v33 v34))))))
set_option maxRecDepth 100000 in
set_option maxHeartbeats 4000000 in
theorem M_X6_invite (this : Nat) (meeting_ : Int32) (person_ : Int32) (isInvited_ : Int32) : MM yX6_invite cX6_invite 6 (some .int) 7 102 5 41 encI [.ref this, .int meeting_, .int person_, .int isInvited_] (F_X6_invite this meeting_ person_ isInvited_) := by
  refine MM_of (env0 := [(0, va_rf (some this)), (1, .int meeting_), (2, .int person_), (3, .int isInvited_)]) (by decide) (by exact Nat.le_of_ble_eq_true rfl) (by rfl) (fun k mm res X C hR hN hr hname h => ?_)
  have X : CX k cX6_invite RX6 := X
  have hT : TH k (fun e m' => res = (.error e, m')) := TH_of C
  have htr := C.2.2.2.1
  unfold F_X6_invite at h
  exact SB_go (T := fun e m' => res = (.error e, m')) (RET := fun v m' => res = (.ok v, m')) (SB_let (XE_2 (pB := pR) wR (L_aload_n (r := (some this)) 0 X dX6_invite_0 rfl rfl) (L_iload_n (x := meeting_) 1 X dX6_invite_1 rfl rfl) (fun v0 v1 st mm a b hd hc hs h => g_callVo (st := st) (cI := 7) X hT htr rfl (fun q => M_X6_meetingNumbered q v1) lk_X6_meetingNumbered im_X6_meetingNumbered se_X6_meetingNumbered ml_X6_100 rfl (by rw [hR]; exact ⟨Nat.le_of_ble_eq_true rfl, Nat.le_of_ble_eq_true rfl⟩) (Nat.le_trans hd (by decide)) ⟨hc, hs⟩ dX6_invite_2 h)) (S_astore (ev := fun changed_3 => [(4, va_rf changed_3), (0, va_rf (some this)), (1, .int meeting_), (2, .int person_), (3, .int isInvited_)]) X dX6_invite_5 (by rw [hN]; decide) (fun _ => rfl)) fun changed_3 =>
  (SB_do (XE_1 (pB := pU)  (L_iload_n (x := person_) 3 X dX6_invite_7 rfl rfl) (fun v0 st mm a b hd hc hs h => g_callS (st := st) X hT htr (M_X6_needPerson v0) lk_X6_needPerson st_X6_needPerson ml_X6_72 rfl (by rw [hR]; exact ⟨Nat.le_of_ble_eq_true rfl, Nat.le_of_ble_eq_true rfl⟩) (Nat.le_trans hd (by decide)) ⟨hc, hs⟩ dX6_invite_8 h))
  (SB_do (XE_1 (pB := pU)  (XE_b2i (CE_2 wI (L_iload_n (x := person_) 3 X dX6_invite_11 rfl rfl) (XE_1 (L_aload (r := changed_3) 0 X dX6_invite_12 rfl) (O_gi (c := 1) (j := 1) X rfl inW0 (by decide) fl_X6_141 rfl dX6_invite_14)) (C_ne_F X dX6_invite_17 (by decide))) (S_b1 X dX6_invite_20 dX6_invite_21 (by decide)) (S_b0 X dX6_invite_24)) (fun v0 st mm a b hd hc hs h => g_callS (st := st) X hT htr (M_X6_needArgument v0) lk_X6_needArgument st_X6_needArgument ml_X6_144 rfl (by rw [hR]; exact ⟨Nat.le_of_ble_eq_true rfl, Nat.le_of_ble_eq_true rfl⟩) (Nat.le_trans hd (by decide)) ⟨hc, hs⟩ dX6_invite_25 h))
  (SB_let (XE_1 (L_aload (r := changed_3) 0 X dX6_invite_28 rfl) (O_gr (c := 1) (j := 2) X rfl inW0 (by decide) fl_X6_104 rfl dX6_invite_30)) (S_astore (ev := fun now_11 => [(5, va_rf now_11), (4, va_rf changed_3), (0, va_rf (some this)), (1, .int meeting_), (2, .int person_), (3, .int isInvited_)]) X dX6_invite_33 (by rw [hN]; decide) (fun _ => (by cases changed_3 <;> rfl))) fun now_11 =>
  (SB_do (XE_1 (pB := pU)  (XE_b2i (CE_and (CE_not (CE_1 (XE_1 (L_aload (r := now_11) 0 X dX6_invite_35 rfl) (O_gi (c := 5) (j := 16) X rfl inW4 (by decide) fl_X6_108 rfl dX6_invite_37)) (Z_ne_T X dX6_invite_40 (by decide)))) (CE_not (CE_1 (XE_2 (pB := pI) wI (XE_tern (CE_1 (L_iload_n (x := isInvited_) 5 X dX6_invite_43 rfl rfl) (Z_ne_F X dX6_invite_44 (by decide))) (XE_1 (L_aload (r := now_11) 0 X dX6_invite_47 rfl) (O_gi (c := 5) (j := 14) X rfl inW4 (by decide) fl_X6_147 rfl dX6_invite_49)) (S_goto X dX6_invite_52 (by decide)) (XE_1 (L_aload (r := now_11) 0 X dX6_invite_55 rfl) (O_gi (c := 5) (j := 15) X rfl inW4 (by decide) fl_X6_150 rfl dX6_invite_57))) (L_iload_n (x := person_) 4 X dX6_invite_60 rfl rfl) (fun v0 v1 st mm a b hd hc hs h => g_callS (st := st) X hT htr (M_X6_isIn v0 v1) lk_X6_isIn st_X6_isIn ml_X6_153 rfl (by rw [hR]; exact ⟨Nat.le_of_ble_eq_true rfl, Nat.le_of_ble_eq_true rfl⟩) (Nat.le_trans hd (by decide)) ⟨hc, hs⟩ dX6_invite_61 h)) (Z_ne_T X dX6_invite_64 (by decide))))) (S_b1 X dX6_invite_67 dX6_invite_68 (by decide)) (S_b0 X dX6_invite_71)) (fun v0 st mm a b hd hc hs h => g_callS (st := st) X hT htr (M_X6_needState v0) lk_X6_needState st_X6_needState ml_X6_81 rfl (by rw [hR]; exact ⟨Nat.le_of_ble_eq_true rfl, Nat.le_of_ble_eq_true rfl⟩) (Nat.le_trans hd (by decide)) ⟨hc, hs⟩ dX6_invite_72 h))
  (SB_retI X C hr dX6_invite_100 (XE_3 (pB := pI) wR wR (L_aload_n (r := (some this)) 2 X dX6_invite_75 rfl rfl) (L_aload (r := changed_3) 1 X dX6_invite_76 rfl) (XE_tern (CE_1 (L_iload_n (x := isInvited_) 5 X dX6_invite_78 rfl rfl) (Z_ne_F X dX6_invite_79 (by decide))) (XE_2 (pB := pR) wR (L_aload (r := now_11) 0 X dX6_invite_82 rfl) (L_iload_n (x := person_) 4 X dX6_invite_84 rfl rfl) (fun v0 v1 st mm a b hd hc hs h => g_callVo (st := st) (cI := 5) X hT htr rfl (fun q => M_X4_withInvited q v1) lk_X4_withInvited im_X4_withInvited se_X4_withInvited ml_X6_157 rfl (by rw [hR]; exact ⟨Nat.le_of_ble_eq_true rfl, Nat.le_of_ble_eq_true rfl⟩) (Nat.le_trans hd (by decide)) ⟨hc, hs⟩ dX6_invite_85 h)) (S_goto X dX6_invite_88 (by decide)) (XE_2 (pB := pR) wR (L_aload (r := now_11) 0 X dX6_invite_91 rfl) (L_iload_n (x := person_) 4 X dX6_invite_93 rfl rfl) (fun v0 v1 st mm a b hd hc hs h => g_callVo (st := st) (cI := 5) X hT htr rfl (fun q => M_X4_withLeftOut q v1) lk_X4_withLeftOut im_X4_withLeftOut se_X4_withLeftOut ml_X6_160 rfl (by rw [hR]; exact ⟨Nat.le_of_ble_eq_true rfl, Nat.le_of_ble_eq_true rfl⟩) (Nat.le_trans hd (by decide)) ⟨hc, hs⟩ dX6_invite_94 h))) (fun v0 v1 v2 st mm a b hd hc hs h => g_callVo (st := st) (cI := 7) X hT htr rfl (fun q => M_X6_putVersion q v1 v2) lk_X6_putVersion im_X6_putVersion se_X6_putVersion ml_X6_116 rfl (by rw [hR]; exact ⟨Nat.le_of_ble_eq_true rfl, Nat.le_of_ble_eq_true rfl⟩) (Nat.le_trans hd (by decide)) ⟨hc, hs⟩ dX6_invite_97 h)))))))) h (by rw [hR]; decide) (by rw [hR]; decide)
theorem dX6_cancel_0 : decode cX6_cancel 0 = .ok (.aload_n 0, 1) := by decide +kernel
theorem dX6_cancel_1 : decode cX6_cancel 1 = .ok (.iload_n 1, 1) := by decide +kernel
theorem dX6_cancel_2 : decode cX6_cancel 2 = .ok (.invokevirtual 100, 3) := by decide +kernel
theorem dX6_cancel_5 : decode cX6_cancel 5 = .ok (.astore_n 2, 1) := by decide +kernel
theorem dX6_cancel_6 : decode cX6_cancel 6 = .ok (.aload_n 2, 1) := by decide +kernel
theorem dX6_cancel_7 : decode cX6_cancel 7 = .ok (.getfield 104, 3) := by decide +kernel
theorem dX6_cancel_10 : decode cX6_cancel 10 = .ok (.getfield 108, 3) := by decide +kernel
theorem dX6_cancel_13 : decode cX6_cancel 13 = .ok (.ifCond .ne 7, 3) := by decide +kernel
theorem dX6_cancel_16 : decode cX6_cancel 16 = .ok (.iconst 1, 1) := by decide +kernel
theorem dX6_cancel_17 : decode cX6_cancel 17 = .ok (.goto 4, 3) := by decide +kernel
theorem dX6_cancel_20 : decode cX6_cancel 20 = .ok (.iconst 0, 1) := by decide +kernel
theorem dX6_cancel_21 : decode cX6_cancel 21 = .ok (.invokestatic 81, 3) := by decide +kernel
theorem dX6_cancel_24 : decode cX6_cancel 24 = .ok (.aload_n 0, 1) := by decide +kernel
theorem dX6_cancel_25 : decode cX6_cancel 25 = .ok (.aload_n 2, 1) := by decide +kernel
theorem dX6_cancel_26 : decode cX6_cancel 26 = .ok (.aload_n 2, 1) := by decide +kernel
theorem dX6_cancel_27 : decode cX6_cancel 27 = .ok (.getfield 104, 3) := by decide +kernel
theorem dX6_cancel_30 : decode cX6_cancel 30 = .ok (.invokevirtual 163, 3) := by decide +kernel
theorem dX6_cancel_33 : decode cX6_cancel 33 = .ok (.invokevirtual 116, 3) := by decide +kernel
theorem dX6_cancel_36 : decode cX6_cancel 36 = .ok (.ireturn, 1) := by decide +kernel
theorem lk_X6_cancel : LK yX6_cancel cX6_cancel 3 (some .int) 1 := ⟨qW_at 1160 (by decide +kernel) rfl, qW_at 29 (by decide +kernel) rfl, by decide, by decide, by decide +kernel⟩
theorem im_X6_cancel : Cond.instanceMethod yX6_cancel ∈ qW := qW_at 1158 (by decide +kernel) rfl
theorem se_X6_cancel : Cond.selects RX6 yX6_cancel yX6_cancel ∈ qW := qW_at 1159 (by decide +kernel) rfl
def F_X6_cancel (this : Nat) (meeting_ : Int32) : QX Int32 :=
  (xb (xb (xp (some this)) fun v1 => xb (xp meeting_) fun v2 => xo 7 v1 fun q => F_X6_meetingNumbered q v2) fun changed_3 =>
  (xb (xb (xb (xb (xb (xb (xb (xp changed_3) fun v4 => xgr 1 2 v4) fun v5 => xgi 5 16 v5) fun v6 => xp (decide (¬ v6 = 0))) fun v7 => xp (!v7)) fun v8 => xp (b2i v8)) fun v9 => F_X6_needState v9) fun _ =>
  (xb (xp (some this)) fun v12 => xb (xp changed_3) fun v13 => xb (xb (xb (xp changed_3) fun v10 => xgr 1 2 v10) fun v11 => xo 5 v11 fun q => F_X4_withCancel q ) fun v14 => xo 7 v12 fun q => F_X6_putVersion q v13 v14)))
set_option maxRecDepth 100000 in
set_option maxHeartbeats 4000000 in
theorem M_X6_cancel (this : Nat) (meeting_ : Int32) : MM yX6_cancel cX6_cancel 3 (some .int) 7 102 3 29 encI [.ref this, .int meeting_] (F_X6_cancel this meeting_) := by
  refine MM_of (env0 := [(0, va_rf (some this)), (1, .int meeting_)]) (by decide) (by exact Nat.le_of_ble_eq_true rfl) (by rfl) (fun k mm res X C hR hN hr hname h => ?_)
  have X : CX k cX6_cancel RX6 := X
  have hT : TH k (fun e m' => res = (.error e, m')) := TH_of C
  have htr := C.2.2.2.1
  unfold F_X6_cancel at h
  exact SB_go (T := fun e m' => res = (.error e, m')) (RET := fun v m' => res = (.ok v, m')) (SB_let (XE_2 (pB := pR) wR (L_aload_n (r := (some this)) 0 X dX6_cancel_0 rfl rfl) (L_iload_n (x := meeting_) 1 X dX6_cancel_1 rfl rfl) (fun v0 v1 st mm a b hd hc hs h => g_callVo (st := st) (cI := 7) X hT htr rfl (fun q => M_X6_meetingNumbered q v1) lk_X6_meetingNumbered im_X6_meetingNumbered se_X6_meetingNumbered ml_X6_100 rfl (by rw [hR]; exact ⟨Nat.le_of_ble_eq_true rfl, Nat.le_of_ble_eq_true rfl⟩) (Nat.le_trans hd (by decide)) ⟨hc, hs⟩ dX6_cancel_2 h)) (S_astore_n (ev := fun changed_3 => [(2, va_rf changed_3), (0, va_rf (some this)), (1, .int meeting_)]) X dX6_cancel_5 rfl (by rw [hN]; decide) (fun _ => rfl)) fun changed_3 =>
  (SB_do (XE_1 (pB := pU)  (XE_b2i (CE_not (CE_1 (XE_1 (XE_1 (L_aload_n (r := changed_3) 0 X dX6_cancel_6 rfl rfl) (O_gr (c := 1) (j := 2) X rfl inW0 (by decide) fl_X6_104 rfl dX6_cancel_7)) (O_gi (c := 5) (j := 16) X rfl inW4 (by decide) fl_X6_108 rfl dX6_cancel_10)) (Z_ne_T X dX6_cancel_13 (by decide)))) (S_b1 X dX6_cancel_16 dX6_cancel_17 (by decide)) (S_b0 X dX6_cancel_20)) (fun v0 st mm a b hd hc hs h => g_callS (st := st) X hT htr (M_X6_needState v0) lk_X6_needState st_X6_needState ml_X6_81 rfl (by rw [hR]; exact ⟨Nat.le_of_ble_eq_true rfl, Nat.le_of_ble_eq_true rfl⟩) (Nat.le_trans hd (by decide)) ⟨hc, hs⟩ dX6_cancel_21 h))
  (SB_retI X C hr dX6_cancel_36 (XE_3 (pB := pI) wR wR (L_aload_n (r := (some this)) 1 X dX6_cancel_24 rfl rfl) (L_aload_n (r := changed_3) 0 X dX6_cancel_25 rfl rfl) (XE_1 (pB := pR)  (XE_1 (L_aload_n (r := changed_3) 0 X dX6_cancel_26 rfl rfl) (O_gr (c := 1) (j := 2) X rfl inW0 (by decide) fl_X6_104 rfl dX6_cancel_27)) (fun v0 st mm a b hd hc hs h => g_callVo (st := st) (cI := 5) X hT htr rfl (fun q => M_X4_withCancel q ) lk_X4_withCancel im_X4_withCancel se_X4_withCancel ml_X6_163 rfl (by rw [hR]; exact ⟨Nat.le_of_ble_eq_true rfl, Nat.le_of_ble_eq_true rfl⟩) (Nat.le_trans hd (by decide)) ⟨hc, hs⟩ dX6_cancel_30 h)) (fun v0 v1 v2 st mm a b hd hc hs h => g_callVo (st := st) (cI := 7) X hT htr rfl (fun q => M_X6_putVersion q v1 v2) lk_X6_putVersion im_X6_putVersion se_X6_putVersion ml_X6_116 rfl (by rw [hR]; exact ⟨Nat.le_of_ble_eq_true rfl, Nat.le_of_ble_eq_true rfl⟩) (Nat.le_trans hd (by decide)) ⟨hc, hs⟩ dX6_cancel_33 h))))) h (by rw [hR]; decide) (by rw [hR]; decide)
theorem dX6_askedOf_0 : decode cX6_askedOf 0 = .ok (.iconst 0, 1) := by decide +kernel
theorem dX6_askedOf_1 : decode cX6_askedOf 1 = .ok (.istore_n 2, 1) := by decide +kernel
theorem dX6_askedOf_2 : decode cX6_askedOf 2 = .ok (.iload_n 2, 1) := by decide +kernel
theorem dX6_askedOf_3 : decode cX6_askedOf 3 = .ok (.iconst 5, 1) := by decide +kernel
theorem dX6_askedOf_4 : decode cX6_askedOf 4 = .ok (.if_icmp .ge 27, 3) := by decide +kernel
theorem dX6_askedOf_7 : decode cX6_askedOf 7 = .ok (.aload_n 0, 1) := by decide +kernel
theorem dX6_askedOf_8 : decode cX6_askedOf 8 = .ok (.getfield 33, 3) := by decide +kernel
theorem dX6_askedOf_11 : decode cX6_askedOf 11 = .ok (.iload_n 2, 1) := by decide +kernel
theorem dX6_askedOf_12 : decode cX6_askedOf 12 = .ok (.aload_n 1, 1) := by decide +kernel
theorem dX6_askedOf_13 : decode cX6_askedOf 13 = .ok (.getfield 388, 3) := by decide +kernel
theorem dX6_askedOf_16 : decode cX6_askedOf 16 = .ok (.iload_n 2, 1) := by decide +kernel
theorem dX6_askedOf_17 : decode cX6_askedOf 17 = .ok (.iconst (-1), 1) := by decide +kernel
theorem dX6_askedOf_18 : decode cX6_askedOf 18 = .ok (.invokevirtual 391, 3) := by decide +kernel
theorem dX6_askedOf_21 : decode cX6_askedOf 21 = .ok (.invokestatic 395, 3) := by decide +kernel
theorem dX6_askedOf_24 : decode cX6_askedOf 24 = .ok (.iastore, 1) := by decide +kernel
theorem dX6_askedOf_25 : decode cX6_askedOf 25 = .ok (.iinc 2 1, 3) := by decide +kernel
theorem dX6_askedOf_28 : decode cX6_askedOf 28 = .ok (.goto (-26), 3) := by decide +kernel
theorem dX6_askedOf_31 : decode cX6_askedOf 31 = .ok (.aload_n 1, 1) := by decide +kernel
theorem dX6_askedOf_32 : decode cX6_askedOf 32 = .ok (.aload_n 0, 1) := by decide +kernel
theorem dX6_askedOf_33 : decode cX6_askedOf 33 = .ok (.getfield 33, 3) := by decide +kernel
theorem dX6_askedOf_36 : decode cX6_askedOf 36 = .ok (.invokevirtual 398, 3) := by decide +kernel
theorem dX6_askedOf_39 : decode cX6_askedOf 39 = .ok (.ireturn, 1) := by decide +kernel
theorem lk_X6_askedOf : LK yX6_askedOf cX6_askedOf 3 (some .int) 1 := ⟨qW_at 500 (by decide +kernel) rfl, qW_at 29 (by decide +kernel) rfl, by decide, by decide, by decide +kernel⟩
theorem im_X6_askedOf : Cond.instanceMethod yX6_askedOf ∈ qW := qW_at 499 (by decide +kernel) rfl
theorem se_X6_askedOf : Cond.selects RX6 yX6_askedOf yX6_askedOf ∈ qW := qW_at 8 (by decide +kernel) rfl
def F_X6_askedOf (this : Nat) (meeting_ : Option Nat) : QX Int32 :=
  (xb (xp (0 : Int32)) fun person_1 =>
  (xb (xl 2000 (fun (s2 : Int32) => (xb (xp s2) fun v3 => xb (xp (5 : Int32)) fun v4 => xp (decide (v3 < v4)))) (fun (s2 : Int32) =>
  (xb (xb (xb (xp (some this)) fun v5 => xgr 7 7 v5) fun v11 => xb (xp s2) fun v12 => xb (xb (xb (xb (xp meeting_) fun v6 => xgr 1 5 v6) fun v7 => xb (xp s2) fun v8 => xb (xp (-1 : Int32)) fun v9 => xo 4 v7 fun q => F_X3_keptFor q v8 v9) fun v10 => F_X1_delegateBy v10) fun v13 => xsai v11 v12 v13) fun _ =>
  (xp (s2 + 1)))) person_1) fun s14 =>
  (xb (xp meeting_) fun v16 => xb (xb (xp (some this)) fun v15 => xgr 7 7 v15) fun v17 => xo 1 v16 fun q => F_X0_askedIf q v17)))
set_option maxRecDepth 100000 in
set_option maxHeartbeats 4000000 in
theorem M_X6_askedOf (this : Nat) (meeting_ : Option Nat) : MM yX6_askedOf cX6_askedOf 3 (some .int) 2 46 0 0 encI [.ref this, va_rf meeting_] (F_X6_askedOf this meeting_) := by
  refine MM_of (env0 := [(0, va_rf (some this)), (1, va_rf meeting_)]) (by decide) (by cases meeting_ <;> exact Nat.le_of_ble_eq_true rfl) (by cases meeting_ <;> rfl) (fun k mm res X C hR hN hr hname h => ?_)
  have X : CX k cX6_askedOf RX6 := X
  have hT : TH k (fun e m' => res = (.error e, m')) := TH_of C
  have htr := C.2.2.2.1
  unfold F_X6_askedOf at h
  exact SB_go (T := fun e m' => res = (.error e, m')) (RET := fun v m' => res = (.ok v, m')) (SB_let (L_iconst (v := 0) X dX6_askedOf_0 (by decide)) (S_istore_n (ev := fun person_1 => [(2, .int person_1), (0, va_rf (some this)), (1, va_rf meeting_)]) X dX6_askedOf_1 rfl (by rw [hN]; decide) (fun _ => (by cases meeting_ <;> rfl))) fun person_1 =>
  (SB_seq (ST_loop (σ := Int32) (upd := (fun (s : Int32) => [(2, .int s), (0, va_rf (some this)), (1, va_rf meeting_)])) (s0 := person_1) (n := 2000) (fun mm a b h => GG_sub [0, 1, 2] rfl h)
  (fun s2 => (CE_2 wI (L_iload_n (x := s2) 0 X dX6_askedOf_2 rfl rfl) (L_iconst (v := 5) X dX6_askedOf_3 (by decide)) (C_lt_F X dX6_askedOf_4 (by decide))))
  (fun s2 => (ST_post (ST_do (XE_3 wR wI (XE_1 (L_aload_n (r := (some this)) 1 X dX6_askedOf_7 rfl rfl) (O_gr (c := 7) (j := 7) X rfl inW6 (by decide) fl_X6_33 rfl dX6_askedOf_8)) (L_iload_n (x := s2) 0 X dX6_askedOf_11 rfl rfl) (XE_1 (pB := pI)  (XE_3 (pB := pR) wR wI (XE_1 (L_aload_n (r := meeting_) 2 X dX6_askedOf_12 rfl rfl) (O_gr (c := 1) (j := 5) X rfl inW0 (by decide) fl_X6_388 rfl dX6_askedOf_13)) (L_iload_n (x := s2) 0 X dX6_askedOf_16 rfl rfl) (L_iconst (v := (-1)) X dX6_askedOf_17 (by decide)) (fun v0 v1 v2 st mm a b hd hc hs h => g_callVo (st := st) (cI := 4) X hT htr rfl (fun q => M_X3_keptFor q v1 v2) lk_X3_keptFor im_X3_keptFor se_X3_keptFor ml_X6_391 rfl (by rw [hR]; exact ⟨Nat.le_of_ble_eq_true rfl, Nat.le_of_ble_eq_true rfl⟩) (Nat.le_trans hd (by decide)) ⟨hc, hs⟩ dX6_askedOf_18 h)) (fun v0 st mm a b hd hc hs h => g_callS (st := st) X hT htr (M_X1_delegateBy v0) lk_X1_delegateBy st_X1_delegateBy ml_X6_395 rfl (by rw [hR]; exact ⟨Nat.le_of_ble_eq_true rfl, Nat.le_of_ble_eq_true rfl⟩) (Nat.le_trans hd (by decide)) ⟨hc, hs⟩ dX6_askedOf_21 h)) (O_sai X dX6_askedOf_24))
  (ST_pre (env' := [(2, .int (s2 + 1)), (0, va_rf (some this)), (1, va_rf meeting_)]) (S_iinc 0 X dX6_askedOf_25 rfl rfl (by rw [hN]; decide) (by cases meeting_ <;> rfl))
  (ST_done (upd := (fun (s : Int32) => [(2, .int s), (0, va_rf (some this)), (1, va_rf meeting_)])) (s := (s2 + 1)) [0, 1, 2] rfl))) fun _ mm a b h => S_goto X dX6_askedOf_28 (by decide) [] mm a b h))) fun s14 =>
  (SB_retI X C hr dX6_askedOf_39 (XE_2 (pB := pI) wR (L_aload_n (r := meeting_) 2 X dX6_askedOf_31 rfl rfl) (XE_1 (L_aload_n (r := (some this)) 1 X dX6_askedOf_32 rfl rfl) (O_gr (c := 7) (j := 7) X rfl inW6 (by decide) fl_X6_33 rfl dX6_askedOf_33)) (fun v0 v1 st mm a b hd hc hs h => g_callVo (st := st) (cI := 1) X hT htr rfl (fun q => M_X0_askedIf q v1) lk_X0_askedIf im_X0_askedIf se_X0_askedIf ml_X6_398 rfl (by rw [hR]; exact ⟨Nat.le_of_ble_eq_true rfl, Nat.le_of_ble_eq_true rfl⟩) (Nat.le_trans hd (by decide)) ⟨hc, hs⟩ dX6_askedOf_36 h))))) h (by rw [hR]; decide) (by rw [hR]; decide)
theorem dJ6_bitCount_0f7a4_0 : decode cJ6_bitCount_0f7a4 0 = .ok (.iload_n 0, 1) := by decide +kernel
theorem dJ6_bitCount_0f7a4_1 : decode cJ6_bitCount_0f7a4 1 = .ok (.iload_n 0, 1) := by decide +kernel
theorem dJ6_bitCount_0f7a4_2 : decode cJ6_bitCount_0f7a4 2 = .ok (.iconst 1, 1) := by decide +kernel
theorem dJ6_bitCount_0f7a4_3 : decode cJ6_bitCount_0f7a4 3 = .ok (.iushr, 1) := by decide +kernel
theorem dJ6_bitCount_0f7a4_4 : decode cJ6_bitCount_0f7a4 4 = .ok (.ldc_w 265, 3) := by decide +kernel
theorem dJ6_bitCount_0f7a4_7 : decode cJ6_bitCount_0f7a4 7 = .ok (.iand, 1) := by decide +kernel
theorem dJ6_bitCount_0f7a4_8 : decode cJ6_bitCount_0f7a4 8 = .ok (.isub, 1) := by decide +kernel
theorem dJ6_bitCount_0f7a4_9 : decode cJ6_bitCount_0f7a4 9 = .ok (.istore_n 0, 1) := by decide +kernel
theorem dJ6_bitCount_0f7a4_10 : decode cJ6_bitCount_0f7a4 10 = .ok (.iload_n 0, 1) := by decide +kernel
theorem dJ6_bitCount_0f7a4_11 : decode cJ6_bitCount_0f7a4 11 = .ok (.ldc_w 266, 3) := by decide +kernel
theorem dJ6_bitCount_0f7a4_14 : decode cJ6_bitCount_0f7a4 14 = .ok (.iand, 1) := by decide +kernel
theorem dJ6_bitCount_0f7a4_15 : decode cJ6_bitCount_0f7a4 15 = .ok (.iload_n 0, 1) := by decide +kernel
theorem dJ6_bitCount_0f7a4_16 : decode cJ6_bitCount_0f7a4 16 = .ok (.iconst 2, 1) := by decide +kernel
theorem dJ6_bitCount_0f7a4_17 : decode cJ6_bitCount_0f7a4 17 = .ok (.iushr, 1) := by decide +kernel
theorem dJ6_bitCount_0f7a4_18 : decode cJ6_bitCount_0f7a4 18 = .ok (.ldc_w 266, 3) := by decide +kernel
theorem dJ6_bitCount_0f7a4_21 : decode cJ6_bitCount_0f7a4 21 = .ok (.iand, 1) := by decide +kernel
theorem dJ6_bitCount_0f7a4_22 : decode cJ6_bitCount_0f7a4 22 = .ok (.iadd, 1) := by decide +kernel
theorem dJ6_bitCount_0f7a4_23 : decode cJ6_bitCount_0f7a4 23 = .ok (.istore_n 0, 1) := by decide +kernel
theorem dJ6_bitCount_0f7a4_24 : decode cJ6_bitCount_0f7a4 24 = .ok (.iload_n 0, 1) := by decide +kernel
theorem dJ6_bitCount_0f7a4_25 : decode cJ6_bitCount_0f7a4 25 = .ok (.iload_n 0, 1) := by decide +kernel
theorem dJ6_bitCount_0f7a4_26 : decode cJ6_bitCount_0f7a4 26 = .ok (.iconst 4, 1) := by decide +kernel
theorem dJ6_bitCount_0f7a4_27 : decode cJ6_bitCount_0f7a4 27 = .ok (.iushr, 1) := by decide +kernel
theorem dJ6_bitCount_0f7a4_28 : decode cJ6_bitCount_0f7a4 28 = .ok (.iadd, 1) := by decide +kernel
theorem dJ6_bitCount_0f7a4_29 : decode cJ6_bitCount_0f7a4 29 = .ok (.ldc_w 267, 3) := by decide +kernel
theorem dJ6_bitCount_0f7a4_32 : decode cJ6_bitCount_0f7a4 32 = .ok (.iand, 1) := by decide +kernel
theorem dJ6_bitCount_0f7a4_33 : decode cJ6_bitCount_0f7a4 33 = .ok (.istore_n 0, 1) := by decide +kernel
theorem dJ6_bitCount_0f7a4_34 : decode cJ6_bitCount_0f7a4 34 = .ok (.iload_n 0, 1) := by decide +kernel
theorem dJ6_bitCount_0f7a4_35 : decode cJ6_bitCount_0f7a4 35 = .ok (.iload_n 0, 1) := by decide +kernel
theorem dJ6_bitCount_0f7a4_36 : decode cJ6_bitCount_0f7a4 36 = .ok (.bipush 8, 2) := by decide +kernel
theorem dJ6_bitCount_0f7a4_38 : decode cJ6_bitCount_0f7a4 38 = .ok (.iushr, 1) := by decide +kernel
theorem dJ6_bitCount_0f7a4_39 : decode cJ6_bitCount_0f7a4 39 = .ok (.iadd, 1) := by decide +kernel
theorem dJ6_bitCount_0f7a4_40 : decode cJ6_bitCount_0f7a4 40 = .ok (.istore_n 0, 1) := by decide +kernel
theorem dJ6_bitCount_0f7a4_41 : decode cJ6_bitCount_0f7a4 41 = .ok (.iload_n 0, 1) := by decide +kernel
theorem dJ6_bitCount_0f7a4_42 : decode cJ6_bitCount_0f7a4 42 = .ok (.iload_n 0, 1) := by decide +kernel
theorem dJ6_bitCount_0f7a4_43 : decode cJ6_bitCount_0f7a4 43 = .ok (.bipush 16, 2) := by decide +kernel
theorem dJ6_bitCount_0f7a4_45 : decode cJ6_bitCount_0f7a4 45 = .ok (.iushr, 1) := by decide +kernel
theorem dJ6_bitCount_0f7a4_46 : decode cJ6_bitCount_0f7a4 46 = .ok (.iadd, 1) := by decide +kernel
theorem dJ6_bitCount_0f7a4_47 : decode cJ6_bitCount_0f7a4 47 = .ok (.istore_n 0, 1) := by decide +kernel
theorem dJ6_bitCount_0f7a4_48 : decode cJ6_bitCount_0f7a4 48 = .ok (.iload_n 0, 1) := by decide +kernel
theorem dJ6_bitCount_0f7a4_49 : decode cJ6_bitCount_0f7a4 49 = .ok (.bipush 63, 2) := by decide +kernel
theorem dJ6_bitCount_0f7a4_51 : decode cJ6_bitCount_0f7a4 51 = .ok (.iand, 1) := by decide +kernel
theorem dJ6_bitCount_0f7a4_52 : decode cJ6_bitCount_0f7a4 52 = .ok (.ireturn, 1) := by decide +kernel
theorem lk_J6_bitCount_0f7a4 : LK yJ6_bitCount_0f7a4 cJ6_bitCount_0f7a4 1 (some .int) 1 := ⟨qW_at 1177 (by decide +kernel) rfl, qW_at 46 (by decide +kernel) rfl, by decide, by decide, by decide +kernel⟩
theorem st_J6_bitCount_0f7a4 : Cond.static yJ6_bitCount_0f7a4 ∈ qW := qW_at 1176 (by decide +kernel) rfl
def F_J6_bitCount_0f7a4 (i_ : Int32) : QX Int32 :=
  (xb (xb (xp i_) fun v5 => xb (xb (xb (xp i_) fun v1 => xb (xp (1 : Int32)) fun v2 => (xp (v1.toUInt32 >>> (v2.toUInt32 &&& Int32.toUInt32 31)).toInt32)) fun v3 => xb (xp (1431655765 : Int32)) fun v4 => (xp (v3 &&& v4))) fun v6 => (xp (v5 - v6))) fun i_7 =>
  (xb (xb (xb (xp i_7) fun v8 => xb (xp (858993459 : Int32)) fun v9 => (xp (v8 &&& v9))) fun v14 => xb (xb (xb (xp i_7) fun v10 => xb (xp (2 : Int32)) fun v11 => (xp (v10.toUInt32 >>> (v11.toUInt32 &&& Int32.toUInt32 31)).toInt32)) fun v12 => xb (xp (858993459 : Int32)) fun v13 => (xp (v12 &&& v13))) fun v15 => (xp (v14 + v15))) fun i_16 =>
  (xb (xb (xb (xp i_16) fun v19 => xb (xb (xp i_16) fun v17 => xb (xp (4 : Int32)) fun v18 => (xp (v17.toUInt32 >>> (v18.toUInt32 &&& Int32.toUInt32 31)).toInt32)) fun v20 => (xp (v19 + v20))) fun v21 => xb (xp (252645135 : Int32)) fun v22 => (xp (v21 &&& v22))) fun i_23 =>
  (xb (xb (xp i_23) fun v26 => xb (xb (xp i_23) fun v24 => xb (xp (8 : Int32)) fun v25 => (xp (v24.toUInt32 >>> (v25.toUInt32 &&& Int32.toUInt32 31)).toInt32)) fun v27 => (xp (v26 + v27))) fun i_28 =>
  (xb (xb (xp i_28) fun v31 => xb (xb (xp i_28) fun v29 => xb (xp (16 : Int32)) fun v30 => (xp (v29.toUInt32 >>> (v30.toUInt32 &&& Int32.toUInt32 31)).toInt32)) fun v32 => (xp (v31 + v32))) fun i_33 =>
  (xb (xp i_33) fun v34 => xb (xp (63 : Int32)) fun v35 => (xp (v34 &&& v35))))))))
set_option maxRecDepth 100000 in
set_option maxHeartbeats 4000000 in
theorem M_J6_bitCount_0f7a4 (i_ : Int32) : MM yJ6_bitCount_0f7a4 cJ6_bitCount_0f7a4 1 (some .int) 0 0 0 0 encI [.int i_] (F_J6_bitCount_0f7a4 i_) := by
  refine MM_of (env0 := [(0, .int i_)]) (by decide) (by exact Nat.le_of_ble_eq_true rfl) (by rfl) (fun k mm res X C hR hN hr hname h => ?_)
  have X : CX k cJ6_bitCount_0f7a4 RJ6 := X
  have hT : TH k (fun e m' => res = (.error e, m')) := TH_of C
  have htr := C.2.2.2.1
  unfold F_J6_bitCount_0f7a4 at h
  exact SB_go (T := fun e m' => res = (.error e, m')) (RET := fun v m' => res = (.ok v, m')) (SB_let (XE_2 wI (L_iload_n (x := i_) 0 X dJ6_bitCount_0f7a4_0 rfl rfl) (XE_2 wI (XE_2 wI (L_iload_n (x := i_) 0 X dJ6_bitCount_0f7a4_1 rfl rfl) (L_iconst (v := 1) X dJ6_bitCount_0f7a4_2 (by decide)) (O_iushr X dJ6_bitCount_0f7a4_3)) (L_ldcw X dJ6_bitCount_0f7a4_4 kc_J6_265) (O_iand X dJ6_bitCount_0f7a4_7)) (O_isub X dJ6_bitCount_0f7a4_8)) (S_istore_n (ev := fun i_7 => [(0, .int i_7)]) X dJ6_bitCount_0f7a4_9 rfl (by rw [hN]; decide) (fun _ => rfl)) fun i_7 =>
  (SB_let (XE_2 wI (XE_2 wI (L_iload_n (x := i_7) 0 X dJ6_bitCount_0f7a4_10 rfl rfl) (L_ldcw X dJ6_bitCount_0f7a4_11 kc_J6_266) (O_iand X dJ6_bitCount_0f7a4_14)) (XE_2 wI (XE_2 wI (L_iload_n (x := i_7) 0 X dJ6_bitCount_0f7a4_15 rfl rfl) (L_iconst (v := 2) X dJ6_bitCount_0f7a4_16 (by decide)) (O_iushr X dJ6_bitCount_0f7a4_17)) (L_ldcw X dJ6_bitCount_0f7a4_18 kc_J6_266) (O_iand X dJ6_bitCount_0f7a4_21)) (O_iadd X dJ6_bitCount_0f7a4_22)) (S_istore_n (ev := fun i_16 => [(0, .int i_16)]) X dJ6_bitCount_0f7a4_23 rfl (by rw [hN]; decide) (fun _ => rfl)) fun i_16 =>
  (SB_let (XE_2 wI (XE_2 wI (L_iload_n (x := i_16) 0 X dJ6_bitCount_0f7a4_24 rfl rfl) (XE_2 wI (L_iload_n (x := i_16) 0 X dJ6_bitCount_0f7a4_25 rfl rfl) (L_iconst (v := 4) X dJ6_bitCount_0f7a4_26 (by decide)) (O_iushr X dJ6_bitCount_0f7a4_27)) (O_iadd X dJ6_bitCount_0f7a4_28)) (L_ldcw X dJ6_bitCount_0f7a4_29 kc_J6_267) (O_iand X dJ6_bitCount_0f7a4_32)) (S_istore_n (ev := fun i_23 => [(0, .int i_23)]) X dJ6_bitCount_0f7a4_33 rfl (by rw [hN]; decide) (fun _ => rfl)) fun i_23 =>
  (SB_let (XE_2 wI (L_iload_n (x := i_23) 0 X dJ6_bitCount_0f7a4_34 rfl rfl) (XE_2 wI (L_iload_n (x := i_23) 0 X dJ6_bitCount_0f7a4_35 rfl rfl) (L_bipush (v := (8)) X dJ6_bitCount_0f7a4_36 (by decide)) (O_iushr X dJ6_bitCount_0f7a4_38)) (O_iadd X dJ6_bitCount_0f7a4_39)) (S_istore_n (ev := fun i_28 => [(0, .int i_28)]) X dJ6_bitCount_0f7a4_40 rfl (by rw [hN]; decide) (fun _ => rfl)) fun i_28 =>
  (SB_let (XE_2 wI (L_iload_n (x := i_28) 0 X dJ6_bitCount_0f7a4_41 rfl rfl) (XE_2 wI (L_iload_n (x := i_28) 0 X dJ6_bitCount_0f7a4_42 rfl rfl) (L_bipush (v := (16)) X dJ6_bitCount_0f7a4_43 (by decide)) (O_iushr X dJ6_bitCount_0f7a4_45)) (O_iadd X dJ6_bitCount_0f7a4_46)) (S_istore_n (ev := fun i_33 => [(0, .int i_33)]) X dJ6_bitCount_0f7a4_47 rfl (by rw [hN]; decide) (fun _ => rfl)) fun i_33 =>
  (SB_retI X C hr dJ6_bitCount_0f7a4_52 (XE_2 wI (L_iload_n (x := i_33) 0 X dJ6_bitCount_0f7a4_48 rfl rfl) (L_bipush (v := (63)) X dJ6_bitCount_0f7a4_49 (by decide)) (O_iand X dJ6_bitCount_0f7a4_51)))))))) h (by rw [hR]; decide) (by rw [hR]; decide)
theorem dX6_needRoom_0 : decode cX6_needRoom 0 = .ok (.aload_n 0, 1) := by decide +kernel
theorem dX6_needRoom_1 : decode cX6_needRoom 1 = .ok (.getfield 245, 3) := by decide +kernel
theorem dX6_needRoom_4 : decode cX6_needRoom 4 = .ok (.iload_n 1, 1) := by decide +kernel
theorem dX6_needRoom_5 : decode cX6_needRoom 5 = .ok (.iadd, 1) := by decide +kernel
theorem dX6_needRoom_6 : decode cX6_needRoom 6 = .ok (.sipush 150, 3) := by decide +kernel
theorem dX6_needRoom_9 : decode cX6_needRoom 9 = .ok (.if_icmp .gt 7, 3) := by decide +kernel
theorem dX6_needRoom_12 : decode cX6_needRoom 12 = .ok (.iconst 1, 1) := by decide +kernel
theorem dX6_needRoom_13 : decode cX6_needRoom 13 = .ok (.goto 4, 3) := by decide +kernel
theorem dX6_needRoom_16 : decode cX6_needRoom 16 = .ok (.iconst 0, 1) := by decide +kernel
theorem dX6_needRoom_17 : decode cX6_needRoom 17 = .ok (.invokestatic 81, 3) := by decide +kernel
theorem dX6_needRoom_20 : decode cX6_needRoom 20 = .ok (.return_, 1) := by decide +kernel
theorem lk_X6_needRoom : LK yX6_needRoom cX6_needRoom 2 none 1 := ⟨qW_at 1184 (by decide +kernel) rfl, qW_at 29 (by decide +kernel) rfl, by decide, by decide, by decide +kernel⟩
theorem im_X6_needRoom : Cond.instanceMethod yX6_needRoom ∈ qW := qW_at 1183 (by decide +kernel) rfl
theorem se_X6_needRoom : Cond.selects RX6 yX6_needRoom yX6_needRoom ∈ qW := qW_at 24 (by decide +kernel) rfl
def F_X6_needRoom (this : Nat) (count_ : Int32) : QX Unit :=
  (xb (xb (xb (xb (xb (xb (xp (some this)) fun v1 => xgi 7 5 v1) fun v2 => xb (xp count_) fun v3 => (xp (v2 + v3))) fun v4 => xb (xp (150 : Int32)) fun v5 => xp (decide (v4 ≤ v5))) fun v6 => xp (b2i v6)) fun v7 => F_X6_needState v7) fun _ =>
  (xp ()))
set_option maxRecDepth 100000 in
set_option maxHeartbeats 4000000 in
theorem M_X6_needRoom (this : Nat) (count_ : Int32) : MM yX6_needRoom cX6_needRoom 2 none 7 101 1 6 encU [.ref this, .int count_] (F_X6_needRoom this count_) := by
  refine MM_of (env0 := [(0, va_rf (some this)), (1, .int count_)]) (by decide) (by exact Nat.le_of_ble_eq_true rfl) (by rfl) (fun k mm res X C hR hN hr hname h => ?_)
  have X : CX k cX6_needRoom RX6 := X
  have hT : TH k (fun e m' => res = (.error e, m')) := TH_of C
  have htr := C.2.2.2.1
  unfold F_X6_needRoom at h
  exact SB_go (T := fun e m' => res = (.error e, m')) (RET := fun v m' => res = (.ok v, m')) (SB_do (XE_1 (pB := pU)  (XE_b2i (CE_2 wI (XE_2 wI (XE_1 (L_aload_n (r := (some this)) 0 X dX6_needRoom_0 rfl rfl) (O_gi (c := 7) (j := 5) X rfl inW6 (by decide) fl_X6_245 rfl dX6_needRoom_1)) (L_iload_n (x := count_) 1 X dX6_needRoom_4 rfl rfl) (O_iadd X dX6_needRoom_5)) (L_sipush (v := (150)) X dX6_needRoom_6 (by decide)) (C_le_F X dX6_needRoom_9 (by decide))) (S_b1 X dX6_needRoom_12 dX6_needRoom_13 (by decide)) (S_b0 X dX6_needRoom_16)) (fun v0 st mm a b hd hc hs h => g_callS (st := st) X hT htr (M_X6_needState v0) lk_X6_needState st_X6_needState ml_X6_81 rfl (by rw [hR]; exact ⟨Nat.le_of_ble_eq_true rfl, Nat.le_of_ble_eq_true rfl⟩) (Nat.le_trans hd (by decide)) ⟨hc, hs⟩ dX6_needRoom_17 h))
  (SB_retU X C hr dX6_needRoom_20)) h (by rw [hR]; decide) (by rw [hR]; decide)
theorem dX6_putMessage_0 : decode cX6_putMessage 0 = .ok (.aload_n 0, 1) := by decide +kernel
theorem dX6_putMessage_1 : decode cX6_putMessage 1 = .ok (.getfield 245, 3) := by decide +kernel
theorem dX6_putMessage_4 : decode cX6_putMessage 4 = .ok (.istore_n 2, 1) := by decide +kernel
theorem dX6_putMessage_5 : decode cX6_putMessage 5 = .ok (.iload_n 2, 1) := by decide +kernel
theorem dX6_putMessage_6 : decode cX6_putMessage 6 = .ok (.sipush 150, 3) := by decide +kernel
theorem dX6_putMessage_9 : decode cX6_putMessage 9 = .ok (.if_icmp .ge 20, 3) := by decide +kernel
theorem dX6_putMessage_12 : decode cX6_putMessage 12 = .ok (.aload_n 0, 1) := by decide +kernel
theorem dX6_putMessage_13 : decode cX6_putMessage 13 = .ok (.getfield 29, 3) := by decide +kernel
theorem dX6_putMessage_16 : decode cX6_putMessage 16 = .ok (.iload_n 2, 1) := by decide +kernel
theorem dX6_putMessage_17 : decode cX6_putMessage 17 = .ok (.aload_n 1, 1) := by decide +kernel
theorem dX6_putMessage_18 : decode cX6_putMessage 18 = .ok (.aastore, 1) := by decide +kernel
theorem dX6_putMessage_19 : decode cX6_putMessage 19 = .ok (.aload_n 0, 1) := by decide +kernel
theorem dX6_putMessage_20 : decode cX6_putMessage 20 = .ok (.dup, 1) := by decide +kernel
theorem dX6_putMessage_21 : decode cX6_putMessage 21 = .ok (.getfield 245, 3) := by decide +kernel
theorem dX6_putMessage_24 : decode cX6_putMessage 24 = .ok (.iconst 1, 1) := by decide +kernel
theorem dX6_putMessage_25 : decode cX6_putMessage 25 = .ok (.iadd, 1) := by decide +kernel
theorem dX6_putMessage_26 : decode cX6_putMessage 26 = .ok (.putfield 245, 3) := by decide +kernel
theorem dX6_putMessage_29 : decode cX6_putMessage 29 = .ok (.iload_n 2, 1) := by decide +kernel
theorem dX6_putMessage_30 : decode cX6_putMessage 30 = .ok (.ireturn, 1) := by decide +kernel
theorem lk_X6_putMessage : LK yX6_putMessage cX6_putMessage 3 (some .int) 1 := ⟨qW_at 1246 (by decide +kernel) rfl, qW_at 29 (by decide +kernel) rfl, by decide, by decide, by decide +kernel⟩
theorem im_X6_putMessage : Cond.instanceMethod yX6_putMessage ∈ qW := qW_at 1245 (by decide +kernel) rfl
theorem se_X6_putMessage : Cond.selects RX6 yX6_putMessage yX6_putMessage ∈ qW := qW_at 26 (by decide +kernel) rfl
def F_X6_putMessage (this : Nat) (message_ : Option Nat) : QX Int32 :=
  (xb (xb (xp (some this)) fun v1 => xgi 7 5 v1) fun number_2 =>
  (xb (xb (xb (xp number_2) fun v3 => xb (xp (150 : Int32)) fun v4 => xp (decide (v3 < v4))) fun v13 => if v13 then (xb (xb (xb (xp (some this)) fun v5 => xgr 7 3 v5) fun v6 => xb (xp number_2) fun v7 => xb (xp message_) fun v8 => xsar 2 v6 v7 v8) fun _ =>
  (xb (xb (xp (some this)) fun v9 => xb (xgi 7 5 v9) fun v10 => xb (xp (1 : Int32)) fun v11 => xb (xp (v10 + v11)) fun v12 => xsi 7 5 v9 v12) fun _ =>
  (xp ()))) else (xp ())) fun s14 =>
  (xp number_2)))
set_option maxRecDepth 100000 in
set_option maxHeartbeats 4000000 in
theorem M_X6_putMessage (this : Nat) (message_ : Option Nat) : MM yX6_putMessage cX6_putMessage 3 (some .int) 0 0 0 0 encI [.ref this, va_rf message_] (F_X6_putMessage this message_) := by
  refine MM_of (env0 := [(0, va_rf (some this)), (1, va_rf message_)]) (by decide) (by cases message_ <;> exact Nat.le_of_ble_eq_true rfl) (by cases message_ <;> rfl) (fun k mm res X C hR hN hr hname h => ?_)
  have X : CX k cX6_putMessage RX6 := X
  have hT : TH k (fun e m' => res = (.error e, m')) := TH_of C
  have htr := C.2.2.2.1
  unfold F_X6_putMessage at h
  exact SB_go (T := fun e m' => res = (.error e, m')) (RET := fun v m' => res = (.ok v, m')) (SB_let (XE_1 (L_aload_n (r := (some this)) 0 X dX6_putMessage_0 rfl rfl) (O_gi (c := 7) (j := 5) X rfl inW6 (by decide) fl_X6_245 rfl dX6_putMessage_1)) (S_istore_n (ev := fun number_2 => [(2, .int number_2), (0, va_rf (some this)), (1, va_rf message_)]) X dX6_putMessage_4 rfl (by rw [hN]; decide) (fun _ => (by cases message_ <;> rfl))) fun number_2 =>
  (SB_seq (ST_if (CE_2 wI (L_iload_n (x := number_2) 0 X dX6_putMessage_5 rfl rfl) (L_sipush (v := (150)) X dX6_putMessage_6 (by decide)) (C_lt_F X dX6_putMessage_9 (by decide)))
  (ST_do (XE_3 wR wI (XE_1 (L_aload_n (r := (some this)) 1 X dX6_putMessage_12 rfl rfl) (O_gr (c := 7) (j := 3) X rfl inW6 (by decide) fl_X6_29 rfl dX6_putMessage_13)) (L_iload_n (x := number_2) 0 X dX6_putMessage_16 rfl rfl) (L_aload_n (r := message_) 2 X dX6_putMessage_17 rfl rfl) (O_sar (c := 2) X rfl (by decide) rfl dX6_putMessage_18))
  (ST_do (XE_dup wI (L_aload_n (r := (some this)) 1 X dX6_putMessage_19 rfl rfl) (S_dup X dX6_putMessage_20) (O_gi (c := 7) (j := 5) X rfl inW6 (by decide) fl_X6_245 rfl dX6_putMessage_21) (L_iconst (v := 1) X dX6_putMessage_24 (by decide)) (O_iadd X dX6_putMessage_25) (O_si (c := 7) (j := 5) tyX6 X rfl inW6 tyX6_ok nmX6 (by decide) fl_X6_245 (Or.inl rfl) rfl (by decide +kernel) dX6_putMessage_26))
  (ST_done (upd := (fun (s : Unit) => [(2, .int number_2), (0, va_rf (some this)), (1, va_rf message_)])) (s := ()) [0, 1, 2] rfl)))
  (ST_done (upd := (fun (s : Unit) => [(2, .int number_2), (0, va_rf (some this)), (1, va_rf message_)])) (s := ()) [0, 1, 2] rfl)) fun s14 =>
  (SB_retI X C hr dX6_putMessage_30 (L_iload_n (x := number_2) 0 X dX6_putMessage_29 rfl rfl)))) h (by rw [hR]; decide) (by rw [hR]; decide)
theorem dX6_putRequest_0 : decode cX6_putRequest 0 = .ok (.aload_n 0, 1) := by decide +kernel
theorem dX6_putRequest_1 : decode cX6_putRequest 1 = .ok (.new 27, 3) := by decide +kernel
theorem dX6_putRequest_4 : decode cX6_putRequest 4 = .ok (.dup, 1) := by decide +kernel
theorem dX6_putRequest_5 : decode cX6_putRequest 5 = .ok (.iconst 0, 1) := by decide +kernel
theorem dX6_putRequest_6 : decode cX6_putRequest 6 = .ok (.aload_n 1, 1) := by decide +kernel
theorem dX6_putRequest_7 : decode cX6_putRequest 7 = .ok (.iload_n 2, 1) := by decide +kernel
theorem dX6_putRequest_8 : decode cX6_putRequest 8 = .ok (.iload_n 3, 1) := by decide +kernel
theorem dX6_putRequest_9 : decode cX6_putRequest 9 = .ok (.aload 4, 2) := by decide +kernel
theorem dX6_putRequest_11 : decode cX6_putRequest 11 = .ok (.invokespecial 217, 3) := by decide +kernel
theorem dX6_putRequest_14 : decode cX6_putRequest 14 = .ok (.invokevirtual 230, 3) := by decide +kernel
theorem dX6_putRequest_17 : decode cX6_putRequest 17 = .ok (.pop, 1) := by decide +kernel
theorem dX6_putRequest_18 : decode cX6_putRequest 18 = .ok (.return_, 1) := by decide +kernel
theorem lk_X6_putRequest : LK yX6_putRequest cX6_putRequest 5 none 4 := ⟨qW_at 1188 (by decide +kernel) rfl, qW_at 29 (by decide +kernel) rfl, by decide, by decide, by decide +kernel⟩
theorem im_X6_putRequest : Cond.instanceMethod yX6_putRequest ∈ qW := qW_at 1187 (by decide +kernel) rfl
theorem se_X6_putRequest : Cond.selects RX6 yX6_putRequest yX6_putRequest ∈ qW := qW_at 25 (by decide +kernel) rfl
def F_X6_putRequest (this : Nat) (meeting_ : Option Nat) (sender_ : Int32) (receiver_ : Int32) (version_ : Option Nat) : QX Unit :=
  (xb (xb (xb (xp (some this)) fun v8 => xb (xb (xnew 2) fun r1 => xb (xb (xp (0 : Int32)) fun v2 => xb (xp meeting_) fun v3 => xb (xp sender_) fun v4 => xb (xp receiver_) fun v5 => xb (xp version_) fun v6 => xo 2 r1 fun q => F_X1_init q v2 v3 v4 v5 v6) fun _ => xp r1) fun v9 => xo 7 v8 fun q => F_X6_putMessage q v9) fun v10 => xp ()) fun _ =>
  (xp ()))
set_option maxRecDepth 100000 in
set_option maxHeartbeats 4000000 in
theorem M_X6_putRequest (this : Nat) (meeting_ : Option Nat) (sender_ : Int32) (receiver_ : Int32) (version_ : Option Nat) : MM yX6_putRequest cX6_putRequest 5 none 2 37 1 12 encU [.ref this, va_rf meeting_, .int sender_, .int receiver_, va_rf version_] (F_X6_putRequest this meeting_ sender_ receiver_ version_) := by
  refine MM_of (env0 := [(0, va_rf (some this)), (1, va_rf meeting_), (2, .int sender_), (3, .int receiver_), (4, va_rf version_)]) (by decide) (by cases meeting_ <;> cases version_ <;> exact Nat.le_of_ble_eq_true rfl) (by cases meeting_ <;> cases version_ <;> rfl) (fun k mm res X C hR hN hr hname h => ?_)
  have X : CX k cX6_putRequest RX6 := X
  have hT : TH k (fun e m' => res = (.error e, m')) := TH_of C
  have htr := C.2.2.2.1
  unfold F_X6_putRequest at h
  exact SB_go (T := fun e m' => res = (.error e, m')) (RET := fun v m' => res = (.ok v, m')) (SB_do (XE_1 (XE_2 (pB := pI) wR (L_aload_n (r := (some this)) 0 X dX6_putRequest_0 rfl rfl) (XE_new (c := 2) (ks0 := 12) (kc0 := 1) (fun st mm a b hc hs h => g_new (c := 2) tyX1 X rfl inW1 tyX1_ok cl_X6_27 in_1 ii_1 (by decide +kernel) hc hs dX6_putRequest_1 h) (S_dup X dX6_putRequest_4) (OP_args5 wI wR wI wI (L_iconst (v := 0) X dX6_putRequest_5 (by decide)) (L_aload_n (r := meeting_) 1 X dX6_putRequest_6 rfl rfl) (L_iload_n (x := sender_) 2 X dX6_putRequest_7 rfl rfl) (L_iload_n (x := receiver_) 3 X dX6_putRequest_8 rfl rfl) (L_aload (r := version_) 4 X dX6_putRequest_9 rfl) (fun r v0 v1 v2 v3 v4 st mm a b hd hc hs h => g_callIo (st := st) (cI := 2) X hT htr (fun q => M_X1_init q v0 v1 v2 v3 v4) lk_X1_init im_X1_init rfl ml_X6_217 rfl (by rw [hR]; exact ⟨Nat.le_of_ble_eq_true rfl, Nat.le_of_ble_eq_true rfl⟩) (Nat.le_trans hd (by decide)) ⟨hc, hs⟩ dX6_putRequest_11 h)) rfl) (fun v0 v1 st mm a b hd hc hs h => g_callVo (st := st) (cI := 7) X hT htr rfl (fun q => M_X6_putMessage q v1) lk_X6_putMessage im_X6_putMessage se_X6_putMessage ml_X6_230 rfl (by rw [hR]; exact ⟨Nat.le_of_ble_eq_true rfl, Nat.le_of_ble_eq_true rfl⟩) (Nat.le_trans hd (by decide)) ⟨hc, hs⟩ dX6_putRequest_14 h)) (O_pop X dX6_putRequest_17))
  (SB_retU X C hr dX6_putRequest_18)) h (by rw [hR]; decide) (by rw [hR]; decide)
theorem dX6_send_0 : decode cX6_send 0 = .ok (.aload_n 0, 1) := by decide +kernel
theorem dX6_send_1 : decode cX6_send 1 = .ok (.iload_n 1, 1) := by decide +kernel
theorem dX6_send_2 : decode cX6_send 2 = .ok (.invokevirtual 100, 3) := by decide +kernel
theorem dX6_send_5 : decode cX6_send 5 = .ok (.astore_n 2, 1) := by decide +kernel
theorem dX6_send_6 : decode cX6_send 6 = .ok (.aload_n 0, 1) := by decide +kernel
theorem dX6_send_7 : decode cX6_send 7 = .ok (.aload_n 2, 1) := by decide +kernel
theorem dX6_send_8 : decode cX6_send 8 = .ok (.invokevirtual 167, 3) := by decide +kernel
theorem dX6_send_11 : decode cX6_send 11 = .ok (.aload_n 2, 1) := by decide +kernel
theorem dX6_send_12 : decode cX6_send 12 = .ok (.getfield 104, 3) := by decide +kernel
theorem dX6_send_15 : decode cX6_send 15 = .ok (.getfield 150, 3) := by decide +kernel
theorem dX6_send_18 : decode cX6_send 18 = .ok (.ior, 1) := by decide +kernel
theorem dX6_send_19 : decode cX6_send 19 = .ok (.aload_n 2, 1) := by decide +kernel
theorem dX6_send_20 : decode cX6_send 20 = .ok (.getfield 171, 3) := by decide +kernel
theorem dX6_send_23 : decode cX6_send 23 = .ok (.ior, 1) := by decide +kernel
theorem dX6_send_24 : decode cX6_send 24 = .ok (.istore_n 3, 1) := by decide +kernel
theorem dX6_send_25 : decode cX6_send 25 = .ok (.iload_n 3, 1) := by decide +kernel
theorem dX6_send_26 : decode cX6_send 26 = .ok (.invokestatic 174, 3) := by decide +kernel
theorem dX6_send_29 : decode cX6_send 29 = .ok (.istore 4, 2) := by decide +kernel
theorem dX6_send_31 : decode cX6_send 31 = .ok (.aload_n 0, 1) := by decide +kernel
theorem dX6_send_32 : decode cX6_send 32 = .ok (.iload 4, 2) := by decide +kernel
theorem dX6_send_34 : decode cX6_send 34 = .ok (.invokevirtual 179, 3) := by decide +kernel
theorem dX6_send_37 : decode cX6_send 37 = .ok (.iconst 0, 1) := by decide +kernel
theorem dX6_send_38 : decode cX6_send 38 = .ok (.istore 5, 2) := by decide +kernel
theorem dX6_send_40 : decode cX6_send 40 = .ok (.iload 5, 2) := by decide +kernel
theorem dX6_send_42 : decode cX6_send 42 = .ok (.iconst 5, 1) := by decide +kernel
theorem dX6_send_43 : decode cX6_send 43 = .ok (.if_icmp .ge 33, 3) := by decide +kernel
theorem dX6_send_46 : decode cX6_send 46 = .ok (.iload_n 3, 1) := by decide +kernel
theorem dX6_send_47 : decode cX6_send 47 = .ok (.iload 5, 2) := by decide +kernel
theorem dX6_send_49 : decode cX6_send 49 = .ok (.invokestatic 153, 3) := by decide +kernel
theorem dX6_send_52 : decode cX6_send 52 = .ok (.ifCond .eq 18, 3) := by decide +kernel
theorem dX6_send_55 : decode cX6_send 55 = .ok (.aload_n 0, 1) := by decide +kernel
theorem dX6_send_56 : decode cX6_send 56 = .ok (.aload_n 2, 1) := by decide +kernel
theorem dX6_send_57 : decode cX6_send 57 = .ok (.aload_n 2, 1) := by decide +kernel
theorem dX6_send_58 : decode cX6_send 58 = .ok (.getfield 141, 3) := by decide +kernel
theorem dX6_send_61 : decode cX6_send 61 = .ok (.iload 5, 2) := by decide +kernel
theorem dX6_send_63 : decode cX6_send 63 = .ok (.aload_n 2, 1) := by decide +kernel
theorem dX6_send_64 : decode cX6_send 64 = .ok (.getfield 104, 3) := by decide +kernel
theorem dX6_send_67 : decode cX6_send 67 = .ok (.invokevirtual 182, 3) := by decide +kernel
theorem dX6_send_70 : decode cX6_send 70 = .ok (.iinc 5 1, 3) := by decide +kernel
theorem dX6_send_73 : decode cX6_send 73 = .ok (.goto (-33), 3) := by decide +kernel
theorem dX6_send_76 : decode cX6_send 76 = .ok (.aload_n 2, 1) := by decide +kernel
theorem dX6_send_77 : decode cX6_send 77 = .ok (.iload_n 3, 1) := by decide +kernel
theorem dX6_send_78 : decode cX6_send 78 = .ok (.putfield 171, 3) := by decide +kernel
theorem dX6_send_81 : decode cX6_send 81 = .ok (.iload 4, 2) := by decide +kernel
theorem dX6_send_83 : decode cX6_send 83 = .ok (.ireturn, 1) := by decide +kernel
theorem lk_X6_send : LK yX6_send cX6_send 6 (some .int) 1 := ⟨qW_at 1174 (by decide +kernel) rfl, qW_at 29 (by decide +kernel) rfl, by decide, by decide, by decide +kernel⟩
theorem im_X6_send : Cond.instanceMethod yX6_send ∈ qW := qW_at 1172 (by decide +kernel) rfl
theorem se_X6_send : Cond.selects RX6 yX6_send yX6_send ∈ qW := qW_at 1173 (by decide +kernel) rfl
def F_X6_send (this : Nat) (meeting_ : Int32) : QX Int32 :=
  (xb (xb (xp (some this)) fun v1 => xb (xp meeting_) fun v2 => xo 7 v1 fun q => F_X6_meetingNumbered q v2) fun sent_3 =>
  (xb (xb (xb (xb (xp (some this)) fun v4 => xb (xp sent_3) fun v5 => xo 7 v4 fun q => F_X6_askedOf q v5) fun v8 => xb (xb (xb (xp sent_3) fun v6 => xgr 1 2 v6) fun v7 => xgi 5 15 v7) fun v9 => (xp (v8 ||| v9))) fun v11 => xb (xb (xp sent_3) fun v10 => xgi 1 4 v10) fun v12 => (xp (v11 ||| v12))) fun receivers_13 =>
  (xb (xb (xp receivers_13) fun v14 => F_J6_bitCount_0f7a4 v14) fun count_15 =>
  (xb (xb (xp (some this)) fun v16 => xb (xp count_15) fun v17 => xo 7 v16 fun q => F_X6_needRoom q v17) fun _ =>
  (xb (xp (0 : Int32)) fun person_18 =>
  (xb (xl 6 (fun (s19 : Int32) => (xb (xp s19) fun v20 => xb (xp (5 : Int32)) fun v21 => xp (decide (v20 < v21)))) (fun (s19 : Int32) =>
  (xb (xb (xb (xb (xp receivers_13) fun v22 => xb (xp s19) fun v23 => F_X6_isIn v22 v23) fun v24 => xp (decide (¬ v24 = 0))) fun v32 => if v32 then (xb (xb (xp (some this)) fun v27 => xb (xp sent_3) fun v28 => xb (xb (xp sent_3) fun v25 => xgi 1 1 v25) fun v29 => xb (xp s19) fun v30 => xb (xb (xp sent_3) fun v26 => xgr 1 2 v26) fun v31 => xo 7 v27 fun q => F_X6_putRequest q v28 v29 v30 v31) fun _ =>
  (xp ())) else (xp ())) fun s33 =>
  (xp (s19 + 1)))) person_18) fun s34 =>
  (xb (xb (xp sent_3) fun v35 => xb (xp receivers_13) fun v36 => xsi 1 4 v35 v36) fun _ =>
  (xp count_15))))))))
set_option maxRecDepth 100000 in
set_option maxHeartbeats 4000000 in
theorem M_X6_send (this : Nat) (meeting_ : Int32) : MM yX6_send cX6_send 6 (some .int) 8 122 8 84 encI [.ref this, .int meeting_] (F_X6_send this meeting_) := by
  refine MM_of (env0 := [(0, va_rf (some this)), (1, .int meeting_)]) (by decide) (by exact Nat.le_of_ble_eq_true rfl) (by rfl) (fun k mm res X C hR hN hr hname h => ?_)
  have X : CX k cX6_send RX6 := X
  have hT : TH k (fun e m' => res = (.error e, m')) := TH_of C
  have htr := C.2.2.2.1
  unfold F_X6_send at h
  exact SB_go (T := fun e m' => res = (.error e, m')) (RET := fun v m' => res = (.ok v, m')) (SB_let (XE_2 (pB := pR) wR (L_aload_n (r := (some this)) 0 X dX6_send_0 rfl rfl) (L_iload_n (x := meeting_) 1 X dX6_send_1 rfl rfl) (fun v0 v1 st mm a b hd hc hs h => g_callVo (st := st) (cI := 7) X hT htr rfl (fun q => M_X6_meetingNumbered q v1) lk_X6_meetingNumbered im_X6_meetingNumbered se_X6_meetingNumbered ml_X6_100 rfl (by rw [hR]; exact ⟨Nat.le_of_ble_eq_true rfl, Nat.le_of_ble_eq_true rfl⟩) (Nat.le_trans hd (by decide)) ⟨hc, hs⟩ dX6_send_2 h)) (S_astore_n (ev := fun sent_3 => [(2, va_rf sent_3), (0, va_rf (some this)), (1, .int meeting_)]) X dX6_send_5 rfl (by rw [hN]; decide) (fun _ => rfl)) fun sent_3 =>
  (SB_let (XE_2 wI (XE_2 wI (XE_2 (pB := pI) wR (L_aload_n (r := (some this)) 1 X dX6_send_6 rfl rfl) (L_aload_n (r := sent_3) 0 X dX6_send_7 rfl rfl) (fun v0 v1 st mm a b hd hc hs h => g_callVo (st := st) (cI := 7) X hT htr rfl (fun q => M_X6_askedOf q v1) lk_X6_askedOf im_X6_askedOf se_X6_askedOf ml_X6_167 rfl (by rw [hR]; exact ⟨Nat.le_of_ble_eq_true rfl, Nat.le_of_ble_eq_true rfl⟩) (Nat.le_trans hd (by decide)) ⟨hc, hs⟩ dX6_send_8 h)) (XE_1 (XE_1 (L_aload_n (r := sent_3) 0 X dX6_send_11 rfl rfl) (O_gr (c := 1) (j := 2) X rfl inW0 (by decide) fl_X6_104 rfl dX6_send_12)) (O_gi (c := 5) (j := 15) X rfl inW4 (by decide) fl_X6_150 rfl dX6_send_15)) (O_ior X dX6_send_18)) (XE_1 (L_aload_n (r := sent_3) 0 X dX6_send_19 rfl rfl) (O_gi (c := 1) (j := 4) X rfl inW0 (by decide) fl_X6_171 rfl dX6_send_20)) (O_ior X dX6_send_23)) (S_istore_n (ev := fun receivers_13 => [(3, .int receivers_13), (2, va_rf sent_3), (0, va_rf (some this)), (1, .int meeting_)]) X dX6_send_24 rfl (by rw [hN]; decide) (fun _ => (by cases sent_3 <;> rfl))) fun receivers_13 =>
  (SB_let (XE_1 (pB := pI)  (L_iload_n (x := receivers_13) 0 X dX6_send_25 rfl rfl) (fun v0 st mm a b hd hc hs h => g_callS (st := st) X hT htr (M_J6_bitCount_0f7a4 v0) lk_J6_bitCount_0f7a4 st_J6_bitCount_0f7a4 ml_X6_174 rfl (by rw [hR]; exact ⟨Nat.le_of_ble_eq_true rfl, Nat.le_of_ble_eq_true rfl⟩) (Nat.le_trans hd (by decide)) ⟨hc, hs⟩ dX6_send_26 h)) (S_istore (ev := fun count_15 => [(4, .int count_15), (3, .int receivers_13), (2, va_rf sent_3), (0, va_rf (some this)), (1, .int meeting_)]) X dX6_send_29 (by rw [hN]; decide) (fun _ => rfl)) fun count_15 =>
  (SB_do (XE_2 (pB := pU) wR (L_aload_n (r := (some this)) 3 X dX6_send_31 rfl rfl) (L_iload (x := count_15) 0 X dX6_send_32 rfl) (fun v0 v1 st mm a b hd hc hs h => g_callVo (st := st) (cI := 7) X hT htr rfl (fun q => M_X6_needRoom q v1) lk_X6_needRoom im_X6_needRoom se_X6_needRoom ml_X6_179 rfl (by rw [hR]; exact ⟨Nat.le_of_ble_eq_true rfl, Nat.le_of_ble_eq_true rfl⟩) (Nat.le_trans hd (by decide)) ⟨hc, hs⟩ dX6_send_34 h))
  (SB_let (L_iconst (v := 0) X dX6_send_37 (by decide)) (S_istore (ev := fun person_18 => [(5, .int person_18), (4, .int count_15), (3, .int receivers_13), (2, va_rf sent_3), (0, va_rf (some this)), (1, .int meeting_)]) X dX6_send_38 (by rw [hN]; decide) (fun _ => rfl)) fun person_18 =>
  (SB_seq (ST_loop (σ := Int32) (upd := (fun (s : Int32) => [(5, .int s), (4, .int count_15), (3, .int receivers_13), (2, va_rf sent_3), (0, va_rf (some this)), (1, .int meeting_)])) (s0 := person_18) (n := 6) (fun mm a b h => GG_sub [0, 1, 2, 3, 4, 5] rfl h)
  (fun s19 => (CE_2 wI (L_iload (x := s19) 0 X dX6_send_40 rfl) (L_iconst (v := 5) X dX6_send_42 (by decide)) (C_lt_F X dX6_send_43 (by decide))))
  (fun s19 => (ST_post (ST_seq (ST_if (CE_1 (XE_2 (pB := pI) wI (L_iload_n (x := receivers_13) 2 X dX6_send_46 rfl rfl) (L_iload (x := s19) 0 X dX6_send_47 rfl) (fun v0 v1 st mm a b hd hc hs h => g_callS (st := st) X hT htr (M_X6_isIn v0 v1) lk_X6_isIn st_X6_isIn ml_X6_153 rfl (by rw [hR]; exact ⟨Nat.le_of_ble_eq_true rfl, Nat.le_of_ble_eq_true rfl⟩) (Nat.le_trans hd (by decide)) ⟨hc, hs⟩ dX6_send_49 h)) (Z_ne_F X dX6_send_52 (by decide)))
  (ST_do (XE_5 (pB := pU) wR wR wI wI (L_aload_n (r := (some this)) 4 X dX6_send_55 rfl rfl) (L_aload_n (r := sent_3) 3 X dX6_send_56 rfl rfl) (XE_1 (L_aload_n (r := sent_3) 3 X dX6_send_57 rfl rfl) (O_gi (c := 1) (j := 1) X rfl inW0 (by decide) fl_X6_141 rfl dX6_send_58)) (L_iload (x := s19) 0 X dX6_send_61 rfl) (XE_1 (L_aload_n (r := sent_3) 3 X dX6_send_63 rfl rfl) (O_gr (c := 1) (j := 2) X rfl inW0 (by decide) fl_X6_104 rfl dX6_send_64)) (fun v0 v1 v2 v3 v4 st mm a b hd hc hs h => g_callVo (st := st) (cI := 7) X hT htr rfl (fun q => M_X6_putRequest q v1 v2 v3 v4) lk_X6_putRequest im_X6_putRequest se_X6_putRequest ml_X6_182 rfl (by rw [hR]; exact ⟨Nat.le_of_ble_eq_true rfl, Nat.le_of_ble_eq_true rfl⟩) (Nat.le_trans hd (by decide)) ⟨hc, hs⟩ dX6_send_67 h))
  (ST_done (upd := (fun (s : Unit) => [(5, .int s19), (4, .int count_15), (3, .int receivers_13), (2, va_rf sent_3), (0, va_rf (some this)), (1, .int meeting_)])) (s := ()) [0, 1, 2, 3, 4, 5] rfl))
  (ST_done (upd := (fun (s : Unit) => [(5, .int s19), (4, .int count_15), (3, .int receivers_13), (2, va_rf sent_3), (0, va_rf (some this)), (1, .int meeting_)])) (s := ()) [0, 1, 2, 3, 4, 5] rfl)) fun s33 =>
  (ST_pre (env' := [(5, .int (s19 + 1)), (4, .int count_15), (3, .int receivers_13), (2, va_rf sent_3), (0, va_rf (some this)), (1, .int meeting_)]) (S_iinc 0 X dX6_send_70 rfl rfl (by rw [hN]; decide) rfl)
  (ST_done (upd := (fun (s : Int32) => [(5, .int s), (4, .int count_15), (3, .int receivers_13), (2, va_rf sent_3), (0, va_rf (some this)), (1, .int meeting_)])) (s := (s19 + 1)) [0, 1, 2, 3, 4, 5] rfl))) fun _ mm a b h => S_goto X dX6_send_73 (by decide) [] mm a b h))) fun s34 =>
  (SB_do (XE_2 wR (L_aload_n (r := sent_3) 3 X dX6_send_76 rfl rfl) (L_iload_n (x := receivers_13) 2 X dX6_send_77 rfl rfl) (O_si (c := 1) (j := 4) tyX0 X rfl inW0 tyX0_ok nmX0 (by decide) fl_X6_171 (Or.inl rfl) rfl (by decide +kernel) dX6_send_78))
  (SB_retI X C hr dX6_send_83 (L_iload (x := count_15) 1 X dX6_send_81 rfl))))))))) h (by rw [hR]; decide) (by rw [hR]; decide)
theorem dX6_messageNumbered_0 : decode cX6_messageNumbered 0 = .ok (.iload_n 1, 1) := by decide +kernel
theorem dX6_messageNumbered_1 : decode cX6_messageNumbered 1 = .ok (.ifCond .lt 11, 3) := by decide +kernel
theorem dX6_messageNumbered_4 : decode cX6_messageNumbered 4 = .ok (.iload_n 1, 1) := by decide +kernel
theorem dX6_messageNumbered_5 : decode cX6_messageNumbered 5 = .ok (.aload_n 0, 1) := by decide +kernel
theorem dX6_messageNumbered_6 : decode cX6_messageNumbered 6 = .ok (.getfield 245, 3) := by decide +kernel
theorem dX6_messageNumbered_9 : decode cX6_messageNumbered 9 = .ok (.if_icmp .lt 11, 3) := by decide +kernel
theorem dX6_messageNumbered_12 : decode cX6_messageNumbered 12 = .ok (.new 281, 3) := by decide +kernel
theorem dX6_messageNumbered_15 : decode cX6_messageNumbered 15 = .ok (.dup, 1) := by decide +kernel
theorem dX6_messageNumbered_16 : decode cX6_messageNumbered 16 = .ok (.invokespecial 283, 3) := by decide +kernel
theorem dX6_messageNumbered_19 : decode cX6_messageNumbered 19 = .ok (.athrow, 1) := by decide +kernel
theorem dX6_messageNumbered_20 : decode cX6_messageNumbered 20 = .ok (.aload_n 0, 1) := by decide +kernel
theorem dX6_messageNumbered_21 : decode cX6_messageNumbered 21 = .ok (.getfield 29, 3) := by decide +kernel
theorem dX6_messageNumbered_24 : decode cX6_messageNumbered 24 = .ok (.iload_n 1, 1) := by decide +kernel
theorem dX6_messageNumbered_25 : decode cX6_messageNumbered 25 = .ok (.aaload, 1) := by decide +kernel
theorem dX6_messageNumbered_26 : decode cX6_messageNumbered 26 = .ok (.areturn, 1) := by decide +kernel
theorem lk_X6_messageNumbered : LK yX6_messageNumbered cX6_messageNumbered 2 (some (.object "MeetingServer$Message")) 1 := ⟨qW_at 569 (by decide +kernel) rfl, qW_at 29 (by decide +kernel) rfl, by decide, by decide, by decide +kernel⟩
theorem im_X6_messageNumbered : Cond.instanceMethod yX6_messageNumbered ∈ qW := qW_at 568 (by decide +kernel) rfl
theorem se_X6_messageNumbered : Cond.selects RX6 yX6_messageNumbered yX6_messageNumbered ∈ qW := qW_at 12 (by decide +kernel) rfl
def F_X6_messageNumbered (this : Nat) (message_ : Int32) : QX (Option Nat) :=
  (xb (xb (xb (xp message_) fun v1 => xp (decide (v1 < 0))) fun v5 => if v5 then xp true else (xb (xp message_) fun v2 => xb (xb (xp (some this)) fun v3 => xgi 7 5 v3) fun v4 => xp (decide (v4 ≤ v2)))) fun v9 => if v9 then (xth 1) else
  (xb (xb (xp (some this)) fun v6 => xgr 7 3 v6) fun v7 => xb (xp message_) fun v8 => xar 2 v7 v8))
set_option maxRecDepth 100000 in
set_option maxHeartbeats 4000000 in
theorem M_X6_messageNumbered (this : Nat) (message_ : Int32) : MM yX6_messageNumbered cX6_messageNumbered 2 (some (.object "MeetingServer$Message")) 6 81 1 6 encR [.ref this, .int message_] (F_X6_messageNumbered this message_) := by
  refine MM_of (env0 := [(0, va_rf (some this)), (1, .int message_)]) (by decide) (by exact Nat.le_of_ble_eq_true rfl) (by rfl) (fun k mm res X C hR hN hr hname h => ?_)
  have X : CX k cX6_messageNumbered RX6 := X
  have hT : TH k (fun e m' => res = (.error e, m')) := TH_of C
  have htr := C.2.2.2.1
  unfold F_X6_messageNumbered at h
  exact SB_go (T := fun e m' => res = (.error e, m')) (RET := fun v m' => res = (.ok v, m')) (SB_if (CE_or (CE_1 (L_iload_n (x := message_) 1 X dX6_messageNumbered_0 rfl rfl) (Z_lt_T X dX6_messageNumbered_1 (by decide))) (CE_2 wI (L_iload_n (x := message_) 1 X dX6_messageNumbered_4 rfl rfl) (XE_1 (L_aload_n (r := (some this)) 0 X dX6_messageNumbered_5 rfl rfl) (O_gi (c := 7) (j := 5) X rfl inW6 (by decide) fl_X6_245 rfl dX6_messageNumbered_6)) (C_ge_F X dX6_messageNumbered_9 (by decide))))
  (SB_throw fun mm a b ha hb h => g_throw (e := 1) X C (by decide) tk_X6_281_283 ti_1 ta_X6_281_283 tg_X6_281_283 (by rw [hR]; exact Nat.le_of_ble_eq_true rfl) (by rw [hR]; exact Nat.le_of_ble_eq_true rfl) ha hb dX6_messageNumbered_12 dX6_messageNumbered_15 dX6_messageNumbered_16 dX6_messageNumbered_19 h)
  (SB_retR X C hr (Or.inl ⟨_, rfl⟩) dX6_messageNumbered_26 (XE_2 wR (XE_1 (L_aload_n (r := (some this)) 0 X dX6_messageNumbered_20 rfl rfl) (O_gr (c := 7) (j := 3) X rfl inW6 (by decide) fl_X6_29 rfl dX6_messageNumbered_21)) (L_iload_n (x := message_) 1 X dX6_messageNumbered_24 rfl rfl) (O_ar (c := 2) X (by decide) rfl dX6_messageNumbered_25)))) h (by rw [hR]; decide) (by rw [hR]; decide)
theorem dX6_isOpen_0 : decode cX6_isOpen 0 = .ok (.aload_n 0, 1) := by decide +kernel
theorem dX6_isOpen_1 : decode cX6_isOpen 1 = .ok (.getfield 197, 3) := by decide +kernel
theorem dX6_isOpen_4 : decode cX6_isOpen 4 = .ok (.getfield 104, 3) := by decide +kernel
theorem dX6_isOpen_7 : decode cX6_isOpen 7 = .ok (.astore_n 1, 1) := by decide +kernel
theorem dX6_isOpen_8 : decode cX6_isOpen 8 = .ok (.aload_n 0, 1) := by decide +kernel
theorem dX6_isOpen_9 : decode cX6_isOpen 9 = .ok (.getfield 236, 3) := by decide +kernel
theorem dX6_isOpen_12 : decode cX6_isOpen 12 = .ok (.iconst 2, 1) := by decide +kernel
theorem dX6_isOpen_13 : decode cX6_isOpen 13 = .ok (.if_icmp .ne 57, 3) := by decide +kernel
theorem dX6_isOpen_16 : decode cX6_isOpen 16 = .ok (.aload_n 0, 1) := by decide +kernel
theorem dX6_isOpen_17 : decode cX6_isOpen 17 = .ok (.getfield 233, 3) := by decide +kernel
theorem dX6_isOpen_20 : decode cX6_isOpen 20 = .ok (.ifCond .eq 50, 3) := by decide +kernel
theorem dX6_isOpen_23 : decode cX6_isOpen 23 = .ok (.aload_n 0, 1) := by decide +kernel
theorem dX6_isOpen_24 : decode cX6_isOpen 24 = .ok (.getfield 194, 3) := by decide +kernel
theorem dX6_isOpen_27 : decode cX6_isOpen 27 = .ok (.ifCond .ne 43, 3) := by decide +kernel
theorem dX6_isOpen_30 : decode cX6_isOpen 30 = .ok (.aload_n 1, 1) := by decide +kernel
theorem dX6_isOpen_31 : decode cX6_isOpen 31 = .ok (.getfield 108, 3) := by decide +kernel
theorem dX6_isOpen_34 : decode cX6_isOpen 34 = .ok (.ifCond .ne 36, 3) := by decide +kernel
theorem dX6_isOpen_37 : decode cX6_isOpen 37 = .ok (.aload_n 1, 1) := by decide +kernel
theorem dX6_isOpen_38 : decode cX6_isOpen 38 = .ok (.aload_n 0, 1) := by decide +kernel
theorem dX6_isOpen_39 : decode cX6_isOpen 39 = .ok (.getfield 201, 3) := by decide +kernel
theorem dX6_isOpen_42 : decode cX6_isOpen 42 = .ok (.invokevirtual 123, 3) := by decide +kernel
theorem dX6_isOpen_45 : decode cX6_isOpen 45 = .ok (.ifCond .eq 25, 3) := by decide +kernel
theorem dX6_isOpen_48 : decode cX6_isOpen 48 = .ok (.aload_n 1, 1) := by decide +kernel
theorem dX6_isOpen_49 : decode cX6_isOpen 49 = .ok (.aload_n 0, 1) := by decide +kernel
theorem dX6_isOpen_50 : decode cX6_isOpen 50 = .ok (.getfield 201, 3) := by decide +kernel
theorem dX6_isOpen_53 : decode cX6_isOpen 53 = .ok (.invokevirtual 306, 3) := by decide +kernel
theorem dX6_isOpen_56 : decode cX6_isOpen 56 = .ok (.aload_n 0, 1) := by decide +kernel
theorem dX6_isOpen_57 : decode cX6_isOpen 57 = .ok (.getfield 381, 3) := by decide +kernel
theorem dX6_isOpen_60 : decode cX6_isOpen 60 = .ok (.getfield 275, 3) := by decide +kernel
theorem dX6_isOpen_63 : decode cX6_isOpen 63 = .ok (.if_icmp .gt 7, 3) := by decide +kernel
theorem dX6_isOpen_66 : decode cX6_isOpen 66 = .ok (.iconst 1, 1) := by decide +kernel
theorem dX6_isOpen_67 : decode cX6_isOpen 67 = .ok (.goto 4, 3) := by decide +kernel
theorem dX6_isOpen_70 : decode cX6_isOpen 70 = .ok (.iconst 0, 1) := by decide +kernel
theorem dX6_isOpen_71 : decode cX6_isOpen 71 = .ok (.ireturn, 1) := by decide +kernel
theorem lk_X6_isOpen : LK yX6_isOpen cX6_isOpen 2 (some .boolean) 1 := ⟨qW_at 551 (by decide +kernel) rfl, qW_at 29 (by decide +kernel) rfl, by decide, by decide, by decide +kernel⟩
theorem st_X6_isOpen : Cond.static yX6_isOpen ∈ qW := qW_at 550 (by decide +kernel) rfl
def F_X6_isOpen (message_ : Option Nat) : QX Int32 :=
  (xb (xb (xb (xp message_) fun v1 => xgr 2 1 v1) fun v2 => xgr 1 2 v2) fun now_3 =>
  (xb (xb (xb (xb (xb (xb (xb (xb (xb (xp message_) fun v4 => xgi 2 0 v4) fun v5 => xb (xp (2 : Int32)) fun v6 => xp (decide (v5 = v6))) fun v9 => if v9 then (xb (xb (xp message_) fun v7 => xgi 2 10 v7) fun v8 => xp (decide (¬ v8 = 0))) else xp false) fun v13 => if v13 then (xb (xb (xb (xp message_) fun v10 => xgi 2 11 v10) fun v11 => xp (decide (¬ v11 = 0))) fun v12 => xp (!v12)) else xp false) fun v17 => if v17 then (xb (xb (xb (xp now_3) fun v14 => xgi 5 16 v14) fun v15 => xp (decide (¬ v15 = 0))) fun v16 => xp (!v16)) else xp false) fun v22 => if v22 then (xb (xb (xp now_3) fun v19 => xb (xb (xp message_) fun v18 => xgi 2 5 v18) fun v20 => xo 5 v19 fun q => F_X4_isDate q v20) fun v21 => xp (decide (¬ v21 = 0))) else xp false) fun v30 => if v30 then (xb (xb (xp now_3) fun v24 => xb (xb (xp message_) fun v23 => xgi 2 5 v23) fun v25 => xo 5 v24 fun q => F_X4_standOf q v25) fun v26 => xb (xb (xb (xp message_) fun v27 => xgr 2 4 v27) fun v28 => xgi 5 0 v28) fun v29 => xp (decide (v26 ≤ v29))) else xp false) fun v31 => xp (b2i v31)) xz))
set_option maxRecDepth 100000 in
set_option maxHeartbeats 4000000 in
theorem M_X6_isOpen (message_ : Option Nat) : MM yX6_isOpen cX6_isOpen 2 (some .boolean) 2 41 0 0 encI [va_rf message_] (F_X6_isOpen message_) := by
  refine MM_of (env0 := [(0, va_rf message_)]) (by decide) (by cases message_ <;> exact Nat.le_of_ble_eq_true rfl) (by cases message_ <;> rfl) (fun k mm res X C hR hN hr hname h => ?_)
  have X : CX k cX6_isOpen RX6 := X
  have hT : TH k (fun e m' => res = (.error e, m')) := TH_of C
  have htr := C.2.2.2.1
  unfold F_X6_isOpen at h
  exact SB_go (T := fun e m' => res = (.error e, m')) (RET := fun v m' => res = (.ok v, m')) (SB_let (XE_1 (XE_1 (L_aload_n (r := message_) 0 X dX6_isOpen_0 rfl rfl) (O_gr (c := 2) (j := 1) X rfl inW1 (by decide) fl_X6_197 rfl dX6_isOpen_1)) (O_gr (c := 1) (j := 2) X rfl inW0 (by decide) fl_X6_104 rfl dX6_isOpen_4)) (S_astore_n (ev := fun now_3 => [(1, va_rf now_3), (0, va_rf message_)]) X dX6_isOpen_7 rfl (by rw [hN]; decide) (fun _ => (by cases message_ <;> rfl))) fun now_3 =>
  (SB_retZ X C hr dX6_isOpen_71 (XE_b2i (CE_and (CE_and (CE_and (CE_and (CE_and (CE_2 wI (XE_1 (L_aload_n (r := message_) 1 X dX6_isOpen_8 rfl rfl) (O_gi (c := 2) (j := 0) X rfl inW1 (by decide) fl_X6_236 rfl dX6_isOpen_9)) (L_iconst (v := 2) X dX6_isOpen_12 (by decide)) (C_eq_F X dX6_isOpen_13 (by decide))) (CE_1 (XE_1 (L_aload_n (r := message_) 1 X dX6_isOpen_16 rfl rfl) (O_gi (c := 2) (j := 10) X rfl inW1 (by decide) fl_X6_233 rfl dX6_isOpen_17)) (Z_ne_F X dX6_isOpen_20 (by decide)))) (CE_not (CE_1 (XE_1 (L_aload_n (r := message_) 1 X dX6_isOpen_23 rfl rfl) (O_gi (c := 2) (j := 11) X rfl inW1 (by decide) fl_X6_194 rfl dX6_isOpen_24)) (Z_ne_T X dX6_isOpen_27 (by decide))))) (CE_not (CE_1 (XE_1 (L_aload_n (r := now_3) 0 X dX6_isOpen_30 rfl rfl) (O_gi (c := 5) (j := 16) X rfl inW4 (by decide) fl_X6_108 rfl dX6_isOpen_31)) (Z_ne_T X dX6_isOpen_34 (by decide))))) (CE_1 (XE_2 (pB := pI) wR (L_aload_n (r := now_3) 0 X dX6_isOpen_37 rfl rfl) (XE_1 (L_aload_n (r := message_) 1 X dX6_isOpen_38 rfl rfl) (O_gi (c := 2) (j := 5) X rfl inW1 (by decide) fl_X6_201 rfl dX6_isOpen_39)) (fun v0 v1 st mm a b hd hc hs h => g_callVo (st := st) (cI := 5) X hT htr rfl (fun q => M_X4_isDate q v1) lk_X4_isDate im_X4_isDate se_X4_isDate ml_X6_123 rfl (by rw [hR]; exact ⟨Nat.le_of_ble_eq_true rfl, Nat.le_of_ble_eq_true rfl⟩) (Nat.le_trans hd (by decide)) ⟨hc, hs⟩ dX6_isOpen_42 h)) (Z_ne_F X dX6_isOpen_45 (by decide)))) (CE_2 wI (XE_2 (pB := pI) wR (L_aload_n (r := now_3) 0 X dX6_isOpen_48 rfl rfl) (XE_1 (L_aload_n (r := message_) 1 X dX6_isOpen_49 rfl rfl) (O_gi (c := 2) (j := 5) X rfl inW1 (by decide) fl_X6_201 rfl dX6_isOpen_50)) (fun v0 v1 st mm a b hd hc hs h => g_callVo (st := st) (cI := 5) X hT htr rfl (fun q => M_X4_standOf q v1) lk_X4_standOf im_X4_standOf se_X4_standOf ml_X6_306 rfl (by rw [hR]; exact ⟨Nat.le_of_ble_eq_true rfl, Nat.le_of_ble_eq_true rfl⟩) (Nat.le_trans hd (by decide)) ⟨hc, hs⟩ dX6_isOpen_53 h)) (XE_1 (XE_1 (L_aload_n (r := message_) 1 X dX6_isOpen_56 rfl rfl) (O_gr (c := 2) (j := 4) X rfl inW1 (by decide) fl_X6_381 rfl dX6_isOpen_57)) (O_gi (c := 5) (j := 0) X rfl inW4 (by decide) fl_X6_275 rfl dX6_isOpen_60)) (C_le_F X dX6_isOpen_63 (by decide)))) (S_b1 X dX6_isOpen_66 dX6_isOpen_67 (by decide)) (S_b0 X dX6_isOpen_70)))) h (by rw [hR]; decide) (by rw [hR]; decide)
theorem dX6_take_0 : decode cX6_take 0 = .ok (.aload_n 0, 1) := by decide +kernel
theorem dX6_take_1 : decode cX6_take 1 = .ok (.iload_n 1, 1) := by decide +kernel
theorem dX6_take_2 : decode cX6_take 2 = .ok (.invokevirtual 186, 3) := by decide +kernel
theorem dX6_take_5 : decode cX6_take 5 = .ok (.astore_n 2, 1) := by decide +kernel
theorem dX6_take_6 : decode cX6_take 6 = .ok (.aload_n 2, 1) := by decide +kernel
theorem dX6_take_7 : decode cX6_take 7 = .ok (.invokestatic 190, 3) := by decide +kernel
theorem dX6_take_10 : decode cX6_take 10 = .ok (.invokestatic 81, 3) := by decide +kernel
theorem dX6_take_13 : decode cX6_take 13 = .ok (.aload_n 2, 1) := by decide +kernel
theorem dX6_take_14 : decode cX6_take 14 = .ok (.iconst 1, 1) := by decide +kernel
theorem dX6_take_15 : decode cX6_take 15 = .ok (.putfield 194, 3) := by decide +kernel
theorem dX6_take_18 : decode cX6_take 18 = .ok (.aload_n 0, 1) := by decide +kernel
theorem dX6_take_19 : decode cX6_take 19 = .ok (.aload_n 2, 1) := by decide +kernel
theorem dX6_take_20 : decode cX6_take 20 = .ok (.getfield 197, 3) := by decide +kernel
theorem dX6_take_23 : decode cX6_take 23 = .ok (.aload_n 2, 1) := by decide +kernel
theorem dX6_take_24 : decode cX6_take 24 = .ok (.getfield 197, 3) := by decide +kernel
theorem dX6_take_27 : decode cX6_take 27 = .ok (.getfield 104, 3) := by decide +kernel
theorem dX6_take_30 : decode cX6_take 30 = .ok (.aload_n 2, 1) := by decide +kernel
theorem dX6_take_31 : decode cX6_take 31 = .ok (.getfield 201, 3) := by decide +kernel
theorem dX6_take_34 : decode cX6_take 34 = .ok (.aload_n 2, 1) := by decide +kernel
theorem dX6_take_35 : decode cX6_take 35 = .ok (.getfield 204, 3) := by decide +kernel
theorem dX6_take_38 : decode cX6_take 38 = .ok (.invokevirtual 137, 3) := by decide +kernel
theorem dX6_take_41 : decode cX6_take 41 = .ok (.invokevirtual 116, 3) := by decide +kernel
theorem dX6_take_44 : decode cX6_take 44 = .ok (.ireturn, 1) := by decide +kernel
theorem lk_X6_take : LK yX6_take cX6_take 3 (some .int) 1 := ⟨qW_at 1281 (by decide +kernel) rfl, qW_at 29 (by decide +kernel) rfl, by decide, by decide, by decide +kernel⟩
theorem im_X6_take : Cond.instanceMethod yX6_take ∈ qW := qW_at 1279 (by decide +kernel) rfl
theorem se_X6_take : Cond.selects RX6 yX6_take yX6_take ∈ qW := qW_at 1280 (by decide +kernel) rfl
def F_X6_take (this : Nat) (message_ : Int32) : QX Int32 :=
  (xb (xb (xp (some this)) fun v1 => xb (xp message_) fun v2 => xo 7 v1 fun q => F_X6_messageNumbered q v2) fun taken_3 =>
  (xb (xb (xb (xp taken_3) fun v4 => F_X6_isOpen v4) fun v5 => F_X6_needState v5) fun _ =>
  (xb (xb (xp taken_3) fun v6 => xb (xp (1 : Int32)) fun v7 => xsz 2 11 v6 v7) fun _ =>
  (xb (xp (some this)) fun v16 => xb (xb (xp taken_3) fun v8 => xgr 2 1 v8) fun v17 => xb (xb (xb (xb (xp taken_3) fun v9 => xgr 2 1 v9) fun v10 => xgr 1 2 v10) fun v13 => xb (xb (xp taken_3) fun v11 => xgi 2 5 v11) fun v14 => xb (xb (xp taken_3) fun v12 => xgi 2 6 v12) fun v15 => xo 5 v13 fun q => F_X4_withMove q v14 v15) fun v18 => xo 7 v16 fun q => F_X6_putVersion q v17 v18))))
set_option maxRecDepth 100000 in
set_option maxHeartbeats 4000000 in
theorem M_X6_take (this : Nat) (message_ : Int32) : MM yX6_take cX6_take 3 (some .int) 7 102 5 149 encI [.ref this, .int message_] (F_X6_take this message_) := by
  refine MM_of (env0 := [(0, va_rf (some this)), (1, .int message_)]) (by decide) (by exact Nat.le_of_ble_eq_true rfl) (by rfl) (fun k mm res X C hR hN hr hname h => ?_)
  have X : CX k cX6_take RX6 := X
  have hT : TH k (fun e m' => res = (.error e, m')) := TH_of C
  have htr := C.2.2.2.1
  unfold F_X6_take at h
  exact SB_go (T := fun e m' => res = (.error e, m')) (RET := fun v m' => res = (.ok v, m')) (SB_let (XE_2 (pB := pR) wR (L_aload_n (r := (some this)) 0 X dX6_take_0 rfl rfl) (L_iload_n (x := message_) 1 X dX6_take_1 rfl rfl) (fun v0 v1 st mm a b hd hc hs h => g_callVo (st := st) (cI := 7) X hT htr rfl (fun q => M_X6_messageNumbered q v1) lk_X6_messageNumbered im_X6_messageNumbered se_X6_messageNumbered ml_X6_186 rfl (by rw [hR]; exact ⟨Nat.le_of_ble_eq_true rfl, Nat.le_of_ble_eq_true rfl⟩) (Nat.le_trans hd (by decide)) ⟨hc, hs⟩ dX6_take_2 h)) (S_astore_n (ev := fun taken_3 => [(2, va_rf taken_3), (0, va_rf (some this)), (1, .int message_)]) X dX6_take_5 rfl (by rw [hN]; decide) (fun _ => rfl)) fun taken_3 =>
  (SB_do (XE_1 (pB := pU)  (XE_1 (pB := pI)  (L_aload_n (r := taken_3) 0 X dX6_take_6 rfl rfl) (fun v0 st mm a b hd hc hs h => g_callS (st := st) X hT htr (M_X6_isOpen v0) lk_X6_isOpen st_X6_isOpen ml_X6_190 rfl (by rw [hR]; exact ⟨Nat.le_of_ble_eq_true rfl, Nat.le_of_ble_eq_true rfl⟩) (Nat.le_trans hd (by decide)) ⟨hc, hs⟩ dX6_take_7 h)) (fun v0 st mm a b hd hc hs h => g_callS (st := st) X hT htr (M_X6_needState v0) lk_X6_needState st_X6_needState ml_X6_81 rfl (by rw [hR]; exact ⟨Nat.le_of_ble_eq_true rfl, Nat.le_of_ble_eq_true rfl⟩) (Nat.le_trans hd (by decide)) ⟨hc, hs⟩ dX6_take_10 h))
  (SB_do (XE_2 wR (L_aload_n (r := taken_3) 0 X dX6_take_13 rfl rfl) (L_iconst (v := 1) X dX6_take_14 (by decide)) (O_sz (c := 2) (j := 11) tyX1 X rfl inW1 tyX1_ok nmX1 (by decide) fl_X6_194 (Or.inl rfl) rfl (by decide +kernel) dX6_take_15))
  (SB_retI X C hr dX6_take_44 (XE_3 (pB := pI) wR wR (L_aload_n (r := (some this)) 1 X dX6_take_18 rfl rfl) (XE_1 (L_aload_n (r := taken_3) 0 X dX6_take_19 rfl rfl) (O_gr (c := 2) (j := 1) X rfl inW1 (by decide) fl_X6_197 rfl dX6_take_20)) (XE_3 (pB := pR) wR wI (XE_1 (XE_1 (L_aload_n (r := taken_3) 0 X dX6_take_23 rfl rfl) (O_gr (c := 2) (j := 1) X rfl inW1 (by decide) fl_X6_197 rfl dX6_take_24)) (O_gr (c := 1) (j := 2) X rfl inW0 (by decide) fl_X6_104 rfl dX6_take_27)) (XE_1 (L_aload_n (r := taken_3) 0 X dX6_take_30 rfl rfl) (O_gi (c := 2) (j := 5) X rfl inW1 (by decide) fl_X6_201 rfl dX6_take_31)) (XE_1 (L_aload_n (r := taken_3) 0 X dX6_take_34 rfl rfl) (O_gi (c := 2) (j := 6) X rfl inW1 (by decide) fl_X6_204 rfl dX6_take_35)) (fun v0 v1 v2 st mm a b hd hc hs h => g_callVo (st := st) (cI := 5) X hT htr rfl (fun q => M_X4_withMove q v1 v2) lk_X4_withMove im_X4_withMove se_X4_withMove ml_X6_137 rfl (by rw [hR]; exact ⟨Nat.le_of_ble_eq_true rfl, Nat.le_of_ble_eq_true rfl⟩) (Nat.le_trans hd (by decide)) ⟨hc, hs⟩ dX6_take_38 h)) (fun v0 v1 v2 st mm a b hd hc hs h => g_callVo (st := st) (cI := 7) X hT htr rfl (fun q => M_X6_putVersion q v1 v2) lk_X6_putVersion im_X6_putVersion se_X6_putVersion ml_X6_116 rfl (by rw [hR]; exact ⟨Nat.le_of_ble_eq_true rfl, Nat.le_of_ble_eq_true rfl⟩) (Nat.le_trans hd (by decide)) ⟨hc, hs⟩ dX6_take_41 h)))))) h (by rw [hR]; decide) (by rw [hR]; decide)
theorem dX6_openProposals_0 : decode cX6_openProposals 0 = .ok (.iconst 0, 1) := by decide +kernel
theorem dX6_openProposals_1 : decode cX6_openProposals 1 = .ok (.istore_n 2, 1) := by decide +kernel
theorem dX6_openProposals_2 : decode cX6_openProposals 2 = .ok (.iconst 0, 1) := by decide +kernel
theorem dX6_openProposals_3 : decode cX6_openProposals 3 = .ok (.istore_n 3, 1) := by decide +kernel
theorem dX6_openProposals_4 : decode cX6_openProposals 4 = .ok (.iload_n 3, 1) := by decide +kernel
theorem dX6_openProposals_5 : decode cX6_openProposals 5 = .ok (.aload_n 0, 1) := by decide +kernel
theorem dX6_openProposals_6 : decode cX6_openProposals 6 = .ok (.getfield 245, 3) := by decide +kernel
theorem dX6_openProposals_9 : decode cX6_openProposals 9 = .ok (.if_icmp .ge 37, 3) := by decide +kernel
theorem dX6_openProposals_12 : decode cX6_openProposals 12 = .ok (.aload_n 0, 1) := by decide +kernel
theorem dX6_openProposals_13 : decode cX6_openProposals 13 = .ok (.getfield 29, 3) := by decide +kernel
theorem dX6_openProposals_16 : decode cX6_openProposals 16 = .ok (.iload_n 3, 1) := by decide +kernel
theorem dX6_openProposals_17 : decode cX6_openProposals 17 = .ok (.aaload, 1) := by decide +kernel
theorem dX6_openProposals_18 : decode cX6_openProposals 18 = .ok (.astore 4, 2) := by decide +kernel
theorem dX6_openProposals_20 : decode cX6_openProposals 20 = .ok (.aload 4, 2) := by decide +kernel
theorem dX6_openProposals_22 : decode cX6_openProposals 22 = .ok (.getfield 197, 3) := by decide +kernel
theorem dX6_openProposals_25 : decode cX6_openProposals 25 = .ok (.aload_n 1, 1) := by decide +kernel
theorem dX6_openProposals_26 : decode cX6_openProposals 26 = .ok (.if_acmp .ne 14, 3) := by decide +kernel
theorem dX6_openProposals_29 : decode cX6_openProposals 29 = .ok (.aload 4, 2) := by decide +kernel
theorem dX6_openProposals_31 : decode cX6_openProposals 31 = .ok (.invokestatic 190, 3) := by decide +kernel
theorem dX6_openProposals_34 : decode cX6_openProposals 34 = .ok (.ifCond .eq 6, 3) := by decide +kernel
theorem dX6_openProposals_37 : decode cX6_openProposals 37 = .ok (.iinc 2 1, 3) := by decide +kernel
theorem dX6_openProposals_40 : decode cX6_openProposals 40 = .ok (.iinc 3 1, 3) := by decide +kernel
theorem dX6_openProposals_43 : decode cX6_openProposals 43 = .ok (.goto (-39), 3) := by decide +kernel
theorem dX6_openProposals_46 : decode cX6_openProposals 46 = .ok (.iload_n 2, 1) := by decide +kernel
theorem dX6_openProposals_47 : decode cX6_openProposals 47 = .ok (.ireturn, 1) := by decide +kernel
theorem lk_X6_openProposals : LK yX6_openProposals cX6_openProposals 5 (some .int) 1 := ⟨qW_at 548 (by decide +kernel) rfl, qW_at 29 (by decide +kernel) rfl, by decide, by decide, by decide +kernel⟩
theorem im_X6_openProposals : Cond.instanceMethod yX6_openProposals ∈ qW := qW_at 547 (by decide +kernel) rfl
theorem se_X6_openProposals : Cond.selects RX6 yX6_openProposals yX6_openProposals ∈ qW := qW_at 11 (by decide +kernel) rfl
def F_X6_openProposals (this : Nat) (meeting_ : Option Nat) : QX Int32 :=
  (xb (xp (0 : Int32)) fun count_1 =>
  (xb (xp (0 : Int32)) fun number_2 =>
  (xb (xl 2000 (fun (s3 : Int32 × Int32) => (xb (xp s3.2) fun v4 => xb (xb (xp (some this)) fun v5 => xgi 7 5 v5) fun v6 => xp (decide (v4 < v6)))) (fun (s3 : Int32 × Int32) =>
  (xb (xb (xb (xp (some this)) fun v7 => xgr 7 3 v7) fun v8 => xb (xp s3.2) fun v9 => xar 2 v8 v9) fun message_10 =>
  (xb (xb (xb (xb (xb (xp message_10) fun v11 => xgr 2 1 v11) fun v12 => xb (xp meeting_) fun v13 => xp (decide (v12 = v13))) fun v16 => if v16 then (xb (xb (xp message_10) fun v14 => F_X6_isOpen v14) fun v15 => xp (decide (¬ v15 = 0))) else xp false) fun v17 => if v17 then (xp (s3.1 + 1)) else (xp s3.1)) fun s18 =>
  (xp (s18, (s3.2 + 1)))))) (count_1, number_2)) fun s19 =>
  (xp s19.1))))
set_option maxRecDepth 100000 in
set_option maxHeartbeats 4000000 in
theorem M_X6_openProposals (this : Nat) (meeting_ : Option Nat) : MM yX6_openProposals cX6_openProposals 5 (some .int) 3 62 0 0 encI [.ref this, va_rf meeting_] (F_X6_openProposals this meeting_) := by
  refine MM_of (env0 := [(0, va_rf (some this)), (1, va_rf meeting_)]) (by decide) (by cases meeting_ <;> exact Nat.le_of_ble_eq_true rfl) (by cases meeting_ <;> rfl) (fun k mm res X C hR hN hr hname h => ?_)
  have X : CX k cX6_openProposals RX6 := X
  have hT : TH k (fun e m' => res = (.error e, m')) := TH_of C
  have htr := C.2.2.2.1
  unfold F_X6_openProposals at h
  exact SB_go (T := fun e m' => res = (.error e, m')) (RET := fun v m' => res = (.ok v, m')) (SB_let (L_iconst (v := 0) X dX6_openProposals_0 (by decide)) (S_istore_n (ev := fun count_1 => [(2, .int count_1), (0, va_rf (some this)), (1, va_rf meeting_)]) X dX6_openProposals_1 rfl (by rw [hN]; decide) (fun _ => (by cases meeting_ <;> rfl))) fun count_1 =>
  (SB_let (L_iconst (v := 0) X dX6_openProposals_2 (by decide)) (S_istore_n (ev := fun number_2 => [(3, .int number_2), (2, .int count_1), (0, va_rf (some this)), (1, va_rf meeting_)]) X dX6_openProposals_3 rfl (by rw [hN]; decide) (fun _ => rfl)) fun number_2 =>
  (SB_seq (ST_loop (σ := Int32 × Int32) (upd := (fun (s : Int32 × Int32) => [(3, .int s.2), (2, .int s.1), (0, va_rf (some this)), (1, va_rf meeting_)])) (s0 := (count_1, number_2)) (n := 2000) (fun mm a b h => GG_sub [0, 1, 2, 3] rfl h)
  (fun s3 => (CE_2 wI (L_iload_n (x := s3.2) 0 X dX6_openProposals_4 rfl rfl) (XE_1 (L_aload_n (r := (some this)) 2 X dX6_openProposals_5 rfl rfl) (O_gi (c := 7) (j := 5) X rfl inW6 (by decide) fl_X6_245 rfl dX6_openProposals_6)) (C_lt_F X dX6_openProposals_9 (by decide))))
  (fun s3 => (ST_post (ST_let (XE_2 wR (XE_1 (L_aload_n (r := (some this)) 2 X dX6_openProposals_12 rfl rfl) (O_gr (c := 7) (j := 3) X rfl inW6 (by decide) fl_X6_29 rfl dX6_openProposals_13)) (L_iload_n (x := s3.2) 0 X dX6_openProposals_16 rfl rfl) (O_ar (c := 2) X (by decide) rfl dX6_openProposals_17)) (S_astore (ev := fun message_10 => [(4, va_rf message_10), (3, .int s3.2), (2, .int s3.1), (0, va_rf (some this)), (1, va_rf meeting_)]) X dX6_openProposals_18 (by rw [hN]; decide) (fun _ => rfl)) fun message_10 =>
  (ST_seq (ST_if (CE_and (CE_2 wR (XE_1 (L_aload (r := message_10) 0 X dX6_openProposals_20 rfl) (O_gr (c := 2) (j := 1) X rfl inW1 (by decide) fl_X6_197 rfl dX6_openProposals_22)) (L_aload_n (r := meeting_) 4 X dX6_openProposals_25 rfl rfl) (A_eq_F X dX6_openProposals_26 (by decide))) (CE_1 (XE_1 (pB := pI)  (L_aload (r := message_10) 0 X dX6_openProposals_29 rfl) (fun v0 st mm a b hd hc hs h => g_callS (st := st) X hT htr (M_X6_isOpen v0) lk_X6_isOpen st_X6_isOpen ml_X6_190 rfl (by rw [hR]; exact ⟨Nat.le_of_ble_eq_true rfl, Nat.le_of_ble_eq_true rfl⟩) (Nat.le_trans hd (by decide)) ⟨hc, hs⟩ dX6_openProposals_31 h)) (Z_ne_F X dX6_openProposals_34 (by decide))))
  (ST_pre (env' := [(2, .int (s3.1 + 1)), (4, va_rf message_10), (3, .int s3.2), (0, va_rf (some this)), (1, va_rf meeting_)]) (S_iinc 2 X dX6_openProposals_37 rfl rfl (by rw [hN]; decide) (by cases meeting_ <;> rfl))
  (ST_done (upd := (fun (s : Int32) => [(4, va_rf message_10), (3, .int s3.2), (2, .int s), (0, va_rf (some this)), (1, va_rf meeting_)])) (s := (s3.1 + 1)) [1, 2, 0, 3, 4] rfl))
  (ST_done (upd := (fun (s : Int32) => [(4, va_rf message_10), (3, .int s3.2), (2, .int s), (0, va_rf (some this)), (1, va_rf meeting_)])) (s := s3.1) [0, 1, 2, 3, 4] rfl)) fun s18 =>
  (ST_pre (env' := [(3, .int (s3.2 + 1)), (4, va_rf message_10), (2, .int s18), (0, va_rf (some this)), (1, va_rf meeting_)]) (S_iinc 1 X dX6_openProposals_40 rfl rfl (by rw [hN]; decide) rfl)
  (ST_done (upd := (fun (s : Int32 × Int32) => [(3, .int s.2), (2, .int s.1), (0, va_rf (some this)), (1, va_rf meeting_)])) (s := (s18, (s3.2 + 1))) [0, 2, 3, 4] rfl)))) fun _ mm a b h => S_goto X dX6_openProposals_43 (by decide) [] mm a b h))) fun s19 =>
  (SB_retI X C hr dX6_openProposals_47 (L_iload_n (x := s19.1) 1 X dX6_openProposals_46 rfl rfl))))) h (by rw [hR]; decide) (by rw [hR]; decide)
theorem dX6_refuse_0 : decode cX6_refuse 0 = .ok (.aload_n 0, 1) := by decide +kernel
theorem dX6_refuse_1 : decode cX6_refuse 1 = .ok (.iload_n 1, 1) := by decide +kernel
theorem dX6_refuse_2 : decode cX6_refuse 2 = .ok (.invokevirtual 186, 3) := by decide +kernel
theorem dX6_refuse_5 : decode cX6_refuse 5 = .ok (.astore_n 2, 1) := by decide +kernel
theorem dX6_refuse_6 : decode cX6_refuse 6 = .ok (.aload_n 2, 1) := by decide +kernel
theorem dX6_refuse_7 : decode cX6_refuse 7 = .ok (.invokestatic 190, 3) := by decide +kernel
theorem dX6_refuse_10 : decode cX6_refuse 10 = .ok (.invokestatic 81, 3) := by decide +kernel
theorem dX6_refuse_13 : decode cX6_refuse 13 = .ok (.aload_n 2, 1) := by decide +kernel
theorem dX6_refuse_14 : decode cX6_refuse 14 = .ok (.iconst 1, 1) := by decide +kernel
theorem dX6_refuse_15 : decode cX6_refuse 15 = .ok (.putfield 194, 3) := by decide +kernel
theorem dX6_refuse_18 : decode cX6_refuse 18 = .ok (.aload_n 0, 1) := by decide +kernel
theorem dX6_refuse_19 : decode cX6_refuse 19 = .ok (.aload_n 2, 1) := by decide +kernel
theorem dX6_refuse_20 : decode cX6_refuse 20 = .ok (.getfield 197, 3) := by decide +kernel
theorem dX6_refuse_23 : decode cX6_refuse 23 = .ok (.invokevirtual 207, 3) := by decide +kernel
theorem dX6_refuse_26 : decode cX6_refuse 26 = .ok (.ireturn, 1) := by decide +kernel
theorem lk_X6_refuse : LK yX6_refuse cX6_refuse 3 (some .int) 1 := ⟨qW_at 1274 (by decide +kernel) rfl, qW_at 29 (by decide +kernel) rfl, by decide, by decide, by decide +kernel⟩
theorem im_X6_refuse : Cond.instanceMethod yX6_refuse ∈ qW := qW_at 1272 (by decide +kernel) rfl
theorem se_X6_refuse : Cond.selects RX6 yX6_refuse yX6_refuse ∈ qW := qW_at 1273 (by decide +kernel) rfl
def F_X6_refuse (this : Nat) (message_ : Int32) : QX Int32 :=
  (xb (xb (xp (some this)) fun v1 => xb (xp message_) fun v2 => xo 7 v1 fun q => F_X6_messageNumbered q v2) fun refused_3 =>
  (xb (xb (xb (xp refused_3) fun v4 => F_X6_isOpen v4) fun v5 => F_X6_needState v5) fun _ =>
  (xb (xb (xp refused_3) fun v6 => xb (xp (1 : Int32)) fun v7 => xsz 2 11 v6 v7) fun _ =>
  (xb (xp (some this)) fun v9 => xb (xb (xp refused_3) fun v8 => xgr 2 1 v8) fun v10 => xo 7 v9 fun q => F_X6_openProposals q v10))))
set_option maxRecDepth 100000 in
set_option maxHeartbeats 4000000 in
theorem M_X6_refuse (this : Nat) (message_ : Int32) : MM yX6_refuse cX6_refuse 3 (some .int) 7 102 2 12 encI [.ref this, .int message_] (F_X6_refuse this message_) := by
  refine MM_of (env0 := [(0, va_rf (some this)), (1, .int message_)]) (by decide) (by exact Nat.le_of_ble_eq_true rfl) (by rfl) (fun k mm res X C hR hN hr hname h => ?_)
  have X : CX k cX6_refuse RX6 := X
  have hT : TH k (fun e m' => res = (.error e, m')) := TH_of C
  have htr := C.2.2.2.1
  unfold F_X6_refuse at h
  exact SB_go (T := fun e m' => res = (.error e, m')) (RET := fun v m' => res = (.ok v, m')) (SB_let (XE_2 (pB := pR) wR (L_aload_n (r := (some this)) 0 X dX6_refuse_0 rfl rfl) (L_iload_n (x := message_) 1 X dX6_refuse_1 rfl rfl) (fun v0 v1 st mm a b hd hc hs h => g_callVo (st := st) (cI := 7) X hT htr rfl (fun q => M_X6_messageNumbered q v1) lk_X6_messageNumbered im_X6_messageNumbered se_X6_messageNumbered ml_X6_186 rfl (by rw [hR]; exact ⟨Nat.le_of_ble_eq_true rfl, Nat.le_of_ble_eq_true rfl⟩) (Nat.le_trans hd (by decide)) ⟨hc, hs⟩ dX6_refuse_2 h)) (S_astore_n (ev := fun refused_3 => [(2, va_rf refused_3), (0, va_rf (some this)), (1, .int message_)]) X dX6_refuse_5 rfl (by rw [hN]; decide) (fun _ => rfl)) fun refused_3 =>
  (SB_do (XE_1 (pB := pU)  (XE_1 (pB := pI)  (L_aload_n (r := refused_3) 0 X dX6_refuse_6 rfl rfl) (fun v0 st mm a b hd hc hs h => g_callS (st := st) X hT htr (M_X6_isOpen v0) lk_X6_isOpen st_X6_isOpen ml_X6_190 rfl (by rw [hR]; exact ⟨Nat.le_of_ble_eq_true rfl, Nat.le_of_ble_eq_true rfl⟩) (Nat.le_trans hd (by decide)) ⟨hc, hs⟩ dX6_refuse_7 h)) (fun v0 st mm a b hd hc hs h => g_callS (st := st) X hT htr (M_X6_needState v0) lk_X6_needState st_X6_needState ml_X6_81 rfl (by rw [hR]; exact ⟨Nat.le_of_ble_eq_true rfl, Nat.le_of_ble_eq_true rfl⟩) (Nat.le_trans hd (by decide)) ⟨hc, hs⟩ dX6_refuse_10 h))
  (SB_do (XE_2 wR (L_aload_n (r := refused_3) 0 X dX6_refuse_13 rfl rfl) (L_iconst (v := 1) X dX6_refuse_14 (by decide)) (O_sz (c := 2) (j := 11) tyX1 X rfl inW1 tyX1_ok nmX1 (by decide) fl_X6_194 (Or.inl rfl) rfl (by decide +kernel) dX6_refuse_15))
  (SB_retI X C hr dX6_refuse_26 (XE_2 (pB := pI) wR (L_aload_n (r := (some this)) 1 X dX6_refuse_18 rfl rfl) (XE_1 (L_aload_n (r := refused_3) 0 X dX6_refuse_19 rfl rfl) (O_gr (c := 2) (j := 1) X rfl inW1 (by decide) fl_X6_197 rfl dX6_refuse_20)) (fun v0 v1 st mm a b hd hc hs h => g_callVo (st := st) (cI := 7) X hT htr rfl (fun q => M_X6_openProposals q v1) lk_X6_openProposals im_X6_openProposals se_X6_openProposals ml_X6_207 rfl (by rw [hR]; exact ⟨Nat.le_of_ble_eq_true rfl, Nat.le_of_ble_eq_true rfl⟩) (Nat.le_trans hd (by decide)) ⟨hc, hs⟩ dX6_refuse_23 h)))))) h (by rw [hR]; decide) (by rw [hR]; decide)
theorem dX6_copyThere_0 : decode cX6_copyThere 0 = .ok (.iload_n 0, 1) := by decide +kernel
theorem dX6_copyThere_1 : decode cX6_copyThere 1 = .ok (.aload_n 1, 1) := by decide +kernel
theorem dX6_copyThere_2 : decode cX6_copyThere 2 = .ok (.getfield 141, 3) := by decide +kernel
theorem dX6_copyThere_5 : decode cX6_copyThere 5 = .ok (.if_icmp .ne 7, 3) := by decide +kernel
theorem dX6_copyThere_8 : decode cX6_copyThere 8 = .ok (.aconst_null, 1) := by decide +kernel
theorem dX6_copyThere_9 : decode cX6_copyThere 9 = .ok (.goto 8, 3) := by decide +kernel
theorem dX6_copyThere_12 : decode cX6_copyThere 12 = .ok (.aload_n 1, 1) := by decide +kernel
theorem dX6_copyThere_13 : decode cX6_copyThere 13 = .ok (.iload_n 0, 1) := by decide +kernel
theorem dX6_copyThere_14 : decode cX6_copyThere 14 = .ok (.invokevirtual 269, 3) := by decide +kernel
theorem dX6_copyThere_17 : decode cX6_copyThere 17 = .ok (.astore_n 2, 1) := by decide +kernel
theorem dX6_copyThere_18 : decode cX6_copyThere 18 = .ok (.aload_n 2, 1) := by decide +kernel
theorem dX6_copyThere_19 : decode cX6_copyThere 19 = .ok (.ifnonnull 11, 3) := by decide +kernel
theorem dX6_copyThere_22 : decode cX6_copyThere 22 = .ok (.new 354, 3) := by decide +kernel
theorem dX6_copyThere_25 : decode cX6_copyThere 25 = .ok (.dup, 1) := by decide +kernel
theorem dX6_copyThere_26 : decode cX6_copyThere 26 = .ok (.invokespecial 356, 3) := by decide +kernel
theorem dX6_copyThere_29 : decode cX6_copyThere 29 = .ok (.athrow, 1) := by decide +kernel
theorem dX6_copyThere_30 : decode cX6_copyThere 30 = .ok (.aload_n 2, 1) := by decide +kernel
theorem dX6_copyThere_31 : decode cX6_copyThere 31 = .ok (.areturn, 1) := by decide +kernel
theorem lk_X6_copyThere : LK yX6_copyThere cX6_copyThere 3 (some (.object "MeetingServer$Version")) 2 := ⟨qW_at 1256 (by decide +kernel) rfl, qW_at 29 (by decide +kernel) rfl, by decide, by decide, by decide +kernel⟩
theorem st_X6_copyThere : Cond.static yX6_copyThere ∈ qW := qW_at 1255 (by decide +kernel) rfl
def F_X6_copyThere (person_ : Int32) (meeting_ : Option Nat) : QX (Option Nat) :=
  (xb (xb (xb (xp person_) fun v1 => xb (xb (xp meeting_) fun v2 => xgi 1 1 v2) fun v3 => xp (decide (v1 = v3))) fun v6 => if v6 then (xp none) else (xb (xp meeting_) fun v4 => xb (xp person_) fun v5 => xo 1 v4 fun q => F_X0_versionThere q v5)) fun copy_7 =>
  (xb (xb (xp copy_7) fun v8 => xp (decide (v8 = none))) fun v9 => if v9 then (xth 3) else
  (xp copy_7)))
set_option maxRecDepth 100000 in
set_option maxHeartbeats 4000000 in
theorem M_X6_copyThere (person_ : Int32) (meeting_ : Option Nat) : MM yX6_copyThere cX6_copyThere 3 (some (.object "MeetingServer$Version")) 6 81 1 6 encR [.int person_, va_rf meeting_] (F_X6_copyThere person_ meeting_) := by
  refine MM_of (env0 := [(0, .int person_), (1, va_rf meeting_)]) (by decide) (by cases meeting_ <;> exact Nat.le_of_ble_eq_true rfl) (by cases meeting_ <;> rfl) (fun k mm res X C hR hN hr hname h => ?_)
  have X : CX k cX6_copyThere RX6 := X
  have hT : TH k (fun e m' => res = (.error e, m')) := TH_of C
  have htr := C.2.2.2.1
  unfold F_X6_copyThere at h
  exact SB_go (T := fun e m' => res = (.error e, m')) (RET := fun v m' => res = (.ok v, m')) (SB_let (XE_tern (CE_2 wI (L_iload_n (x := person_) 0 X dX6_copyThere_0 rfl rfl) (XE_1 (L_aload_n (r := meeting_) 1 X dX6_copyThere_1 rfl rfl) (O_gi (c := 1) (j := 1) X rfl inW0 (by decide) fl_X6_141 rfl dX6_copyThere_2)) (C_eq_F X dX6_copyThere_5 (by decide))) (L_null X dX6_copyThere_8) (S_goto X dX6_copyThere_9 (by decide)) (XE_2 (pB := pR) wR (L_aload_n (r := meeting_) 1 X dX6_copyThere_12 rfl rfl) (L_iload_n (x := person_) 0 X dX6_copyThere_13 rfl rfl) (fun v0 v1 st mm a b hd hc hs h => g_callVo (st := st) (cI := 1) X hT htr rfl (fun q => M_X0_versionThere q v1) lk_X0_versionThere im_X0_versionThere se_X0_versionThere ml_X6_269 rfl (by rw [hR]; exact ⟨Nat.le_of_ble_eq_true rfl, Nat.le_of_ble_eq_true rfl⟩) (Nat.le_trans hd (by decide)) ⟨hc, hs⟩ dX6_copyThere_14 h))) (S_astore_n (ev := fun copy_7 => [(2, va_rf copy_7), (0, .int person_), (1, va_rf meeting_)]) X dX6_copyThere_17 rfl (by rw [hN]; decide) (fun _ => (by cases meeting_ <;> rfl))) fun copy_7 =>
  (SB_if (CE_1 (L_aload_n (r := copy_7) 0 X dX6_copyThere_18 rfl rfl) (N_eq_F X dX6_copyThere_19 (by decide)))
  (SB_throw fun mm a b ha hb h => g_throw (e := 3) X C (by decide) tk_X6_354_356 ti_3 ta_X6_354_356 tg_X6_354_356 (by rw [hR]; exact Nat.le_of_ble_eq_true rfl) (by rw [hR]; exact Nat.le_of_ble_eq_true rfl) ha hb dX6_copyThere_22 dX6_copyThere_25 dX6_copyThere_26 dX6_copyThere_29 h)
  (SB_retR X C hr (Or.inl ⟨_, rfl⟩) dX6_copyThere_31 (L_aload_n (r := copy_7) 0 X dX6_copyThere_30 rfl rfl)))) h (by rw [hR]; decide) (by rw [hR]; decide)
theorem dX6_putReply_0 : decode cX6_putReply 0 = .ok (.aload_n 1, 1) := by decide +kernel
theorem dX6_putReply_1 : decode cX6_putReply 1 = .ok (.aload_n 0, 1) := by decide +kernel
theorem dX6_putReply_2 : decode cX6_putReply 2 = .ok (.getfield 363, 3) := by decide +kernel
theorem dX6_putReply_5 : decode cX6_putReply 5 = .ok (.putfield 366, 3) := by decide +kernel
theorem dX6_putReply_8 : decode cX6_putReply 8 = .ok (.aload_n 0, 1) := by decide +kernel
theorem dX6_putReply_9 : decode cX6_putReply 9 = .ok (.dup, 1) := by decide +kernel
theorem dX6_putReply_10 : decode cX6_putReply 10 = .ok (.getfield 363, 3) := by decide +kernel
theorem dX6_putReply_13 : decode cX6_putReply 13 = .ok (.iconst 1, 1) := by decide +kernel
theorem dX6_putReply_14 : decode cX6_putReply 14 = .ok (.iadd, 1) := by decide +kernel
theorem dX6_putReply_15 : decode cX6_putReply 15 = .ok (.putfield 363, 3) := by decide +kernel
theorem dX6_putReply_18 : decode cX6_putReply 18 = .ok (.aload_n 1, 1) := by decide +kernel
theorem dX6_putReply_19 : decode cX6_putReply 19 = .ok (.getfield 197, 3) := by decide +kernel
theorem dX6_putReply_22 : decode cX6_putReply 22 = .ok (.getfield 369, 3) := by decide +kernel
theorem dX6_putReply_25 : decode cX6_putReply 25 = .ok (.aload_n 1, 1) := by decide +kernel
theorem dX6_putReply_26 : decode cX6_putReply 26 = .ok (.invokevirtual 373, 3) := by decide +kernel
theorem dX6_putReply_29 : decode cX6_putReply 29 = .ok (.pop, 1) := by decide +kernel
theorem dX6_putReply_30 : decode cX6_putReply 30 = .ok (.aload_n 0, 1) := by decide +kernel
theorem dX6_putReply_31 : decode cX6_putReply 31 = .ok (.aload_n 1, 1) := by decide +kernel
theorem dX6_putReply_32 : decode cX6_putReply 32 = .ok (.getfield 378, 3) := by decide +kernel
theorem dX6_putReply_35 : decode cX6_putReply 35 = .ok (.aload_n 1, 1) := by decide +kernel
theorem dX6_putReply_36 : decode cX6_putReply 36 = .ok (.getfield 197, 3) := by decide +kernel
theorem dX6_putReply_39 : decode cX6_putReply 39 = .ok (.invokevirtual 96, 3) := by decide +kernel
theorem dX6_putReply_42 : decode cX6_putReply 42 = .ok (.aload_n 0, 1) := by decide +kernel
theorem dX6_putReply_43 : decode cX6_putReply 43 = .ok (.aload_n 1, 1) := by decide +kernel
theorem dX6_putReply_44 : decode cX6_putReply 44 = .ok (.invokevirtual 230, 3) := by decide +kernel
theorem dX6_putReply_47 : decode cX6_putReply 47 = .ok (.ireturn, 1) := by decide +kernel
theorem lk_X6_putReply : LK yX6_putReply cX6_putReply 2 (some .int) 1 := ⟨qW_at 1260 (by decide +kernel) rfl, qW_at 29 (by decide +kernel) rfl, by decide, by decide, by decide +kernel⟩
theorem im_X6_putReply : Cond.instanceMethod yX6_putReply ∈ qW := qW_at 1259 (by decide +kernel) rfl
theorem se_X6_putReply : Cond.selects RX6 yX6_putReply yX6_putReply ∈ qW := qW_at 27 (by decide +kernel) rfl
def F_X6_putReply (this : Nat) (reply_ : Option Nat) : QX Int32 :=
  (xb (xb (xp reply_) fun v2 => xb (xb (xp (some this)) fun v1 => xgi 7 6 v1) fun v3 => xsi 2 9 v2 v3) fun _ =>
  (xb (xb (xp (some this)) fun v4 => xb (xgi 7 6 v4) fun v5 => xb (xp (1 : Int32)) fun v6 => xb (xp (v5 + v6)) fun v7 => xsi 7 6 v4 v7) fun _ =>
  (xb (xb (xb (xb (xb (xp reply_) fun v8 => xgr 2 1 v8) fun v9 => xgr 1 6 v9) fun v10 => xb (xp reply_) fun v11 => xo 4 v10 fun q => F_X3_keep q v11) fun v12 => xp ()) fun _ =>
  (xb (xb (xp (some this)) fun v15 => xb (xb (xp reply_) fun v13 => xgi 2 2 v13) fun v16 => xb (xb (xp reply_) fun v14 => xgr 2 1 v14) fun v17 => xo 7 v15 fun q => F_X6_markEntry q v16 v17) fun _ =>
  (xb (xp (some this)) fun v18 => xb (xp reply_) fun v19 => xo 7 v18 fun q => F_X6_putMessage q v19)))))
set_option maxRecDepth 100000 in
set_option maxHeartbeats 4000000 in
theorem M_X6_putReply (this : Nat) (reply_ : Option Nat) : MM yX6_putReply cX6_putReply 2 (some .int) 3 70 0 0 encI [.ref this, va_rf reply_] (F_X6_putReply this reply_) := by
  refine MM_of (env0 := [(0, va_rf (some this)), (1, va_rf reply_)]) (by decide) (by cases reply_ <;> exact Nat.le_of_ble_eq_true rfl) (by cases reply_ <;> rfl) (fun k mm res X C hR hN hr hname h => ?_)
  have X : CX k cX6_putReply RX6 := X
  have hT : TH k (fun e m' => res = (.error e, m')) := TH_of C
  have htr := C.2.2.2.1
  unfold F_X6_putReply at h
  exact SB_go (T := fun e m' => res = (.error e, m')) (RET := fun v m' => res = (.ok v, m')) (SB_do (XE_2 wR (L_aload_n (r := reply_) 1 X dX6_putReply_0 rfl rfl) (XE_1 (L_aload_n (r := (some this)) 0 X dX6_putReply_1 rfl rfl) (O_gi (c := 7) (j := 6) X rfl inW6 (by decide) fl_X6_363 rfl dX6_putReply_2)) (O_si (c := 2) (j := 9) tyX1 X rfl inW1 tyX1_ok nmX1 (by decide) fl_X6_366 (Or.inl rfl) rfl (by decide +kernel) dX6_putReply_5))
  (SB_do (XE_dup wI (L_aload_n (r := (some this)) 0 X dX6_putReply_8 rfl rfl) (S_dup X dX6_putReply_9) (O_gi (c := 7) (j := 6) X rfl inW6 (by decide) fl_X6_363 rfl dX6_putReply_10) (L_iconst (v := 1) X dX6_putReply_13 (by decide)) (O_iadd X dX6_putReply_14) (O_si (c := 7) (j := 6) tyX6 X rfl inW6 tyX6_ok nmX6 (by decide) fl_X6_363 (Or.inl rfl) rfl (by decide +kernel) dX6_putReply_15))
  (SB_do (XE_1 (XE_2 (pB := pI) wR (XE_1 (XE_1 (L_aload_n (r := reply_) 1 X dX6_putReply_18 rfl rfl) (O_gr (c := 2) (j := 1) X rfl inW1 (by decide) fl_X6_197 rfl dX6_putReply_19)) (O_gr (c := 1) (j := 6) X rfl inW0 (by decide) fl_X6_369 rfl dX6_putReply_22)) (L_aload_n (r := reply_) 1 X dX6_putReply_25 rfl rfl) (fun v0 v1 st mm a b hd hc hs h => g_callVo (st := st) (cI := 4) X hT htr rfl (fun q => M_X3_keep q v1) lk_X3_keep im_X3_keep se_X3_keep ml_X6_373 rfl (by rw [hR]; exact ⟨Nat.le_of_ble_eq_true rfl, Nat.le_of_ble_eq_true rfl⟩) (Nat.le_trans hd (by decide)) ⟨hc, hs⟩ dX6_putReply_26 h)) (O_pop X dX6_putReply_29))
  (SB_do (XE_3 (pB := pU) wR wI (L_aload_n (r := (some this)) 0 X dX6_putReply_30 rfl rfl) (XE_1 (L_aload_n (r := reply_) 1 X dX6_putReply_31 rfl rfl) (O_gi (c := 2) (j := 2) X rfl inW1 (by decide) fl_X6_378 rfl dX6_putReply_32)) (XE_1 (L_aload_n (r := reply_) 1 X dX6_putReply_35 rfl rfl) (O_gr (c := 2) (j := 1) X rfl inW1 (by decide) fl_X6_197 rfl dX6_putReply_36)) (fun v0 v1 v2 st mm a b hd hc hs h => g_callVo (st := st) (cI := 7) X hT htr rfl (fun q => M_X6_markEntry q v1 v2) lk_X6_markEntry im_X6_markEntry se_X6_markEntry ml_X6_96 rfl (by rw [hR]; exact ⟨Nat.le_of_ble_eq_true rfl, Nat.le_of_ble_eq_true rfl⟩) (Nat.le_trans hd (by decide)) ⟨hc, hs⟩ dX6_putReply_39 h))
  (SB_retI X C hr dX6_putReply_47 (XE_2 (pB := pI) wR (L_aload_n (r := (some this)) 0 X dX6_putReply_42 rfl rfl) (L_aload_n (r := reply_) 1 X dX6_putReply_43 rfl rfl) (fun v0 v1 st mm a b hd hc hs h => g_callVo (st := st) (cI := 7) X hT htr rfl (fun q => M_X6_putMessage q v1) lk_X6_putMessage im_X6_putMessage se_X6_putMessage ml_X6_230 rfl (by rw [hR]; exact ⟨Nat.le_of_ble_eq_true rfl, Nat.le_of_ble_eq_true rfl⟩) (Nat.le_trans hd (by decide)) ⟨hc, hs⟩ dX6_putReply_44 h))))))) h (by rw [hR]; decide) (by rw [hR]; decide)
theorem dX6_answer_0 : decode cX6_answer 0 = .ok (.iload_n 1, 1) := by decide +kernel
theorem dX6_answer_1 : decode cX6_answer 1 = .ok (.invokestatic 72, 3) := by decide +kernel
theorem dX6_answer_4 : decode cX6_answer 4 = .ok (.aload_n 0, 1) := by decide +kernel
theorem dX6_answer_5 : decode cX6_answer 5 = .ok (.iload_n 2, 1) := by decide +kernel
theorem dX6_answer_6 : decode cX6_answer 6 = .ok (.invokevirtual 100, 3) := by decide +kernel
theorem dX6_answer_9 : decode cX6_answer 9 = .ok (.astore 5, 2) := by decide +kernel
theorem dX6_answer_11 : decode cX6_answer 11 = .ok (.iload_n 3, 1) := by decide +kernel
theorem dX6_answer_12 : decode cX6_answer 12 = .ok (.iconst (-1), 1) := by decide +kernel
theorem dX6_answer_13 : decode cX6_answer 13 = .ok (.if_icmp .eq 10, 3) := by decide +kernel
theorem dX6_answer_16 : decode cX6_answer 16 = .ok (.iload_n 3, 1) := by decide +kernel
theorem dX6_answer_17 : decode cX6_answer 17 = .ok (.invokestatic 210, 3) := by decide +kernel
theorem dX6_answer_20 : decode cX6_answer 20 = .ok (.ifCond .eq 7, 3) := by decide +kernel
theorem dX6_answer_23 : decode cX6_answer 23 = .ok (.iconst 1, 1) := by decide +kernel
theorem dX6_answer_24 : decode cX6_answer 24 = .ok (.goto 4, 3) := by decide +kernel
theorem dX6_answer_27 : decode cX6_answer 27 = .ok (.iconst 0, 1) := by decide +kernel
theorem dX6_answer_28 : decode cX6_answer 28 = .ok (.invokestatic 144, 3) := by decide +kernel
theorem dX6_answer_31 : decode cX6_answer 31 = .ok (.iload 4, 2) := by decide +kernel
theorem dX6_answer_33 : decode cX6_answer 33 = .ok (.iconst 1, 1) := by decide +kernel
theorem dX6_answer_34 : decode cX6_answer 34 = .ok (.iconst 3, 1) := by decide +kernel
theorem dX6_answer_35 : decode cX6_answer 35 = .ok (.invokestatic 47, 3) := by decide +kernel
theorem dX6_answer_38 : decode cX6_answer 38 = .ok (.iload_n 1, 1) := by decide +kernel
theorem dX6_answer_39 : decode cX6_answer 39 = .ok (.aload 5, 2) := by decide +kernel
theorem dX6_answer_41 : decode cX6_answer 41 = .ok (.invokestatic 213, 3) := by decide +kernel
theorem dX6_answer_44 : decode cX6_answer 44 = .ok (.astore 6, 2) := by decide +kernel
theorem dX6_answer_46 : decode cX6_answer 46 = .ok (.iload_n 3, 1) := by decide +kernel
theorem dX6_answer_47 : decode cX6_answer 47 = .ok (.iconst (-1), 1) := by decide +kernel
theorem dX6_answer_48 : decode cX6_answer 48 = .ok (.if_icmp .eq 12, 3) := by decide +kernel
theorem dX6_answer_51 : decode cX6_answer 51 = .ok (.aload 6, 2) := by decide +kernel
theorem dX6_answer_53 : decode cX6_answer 53 = .ok (.iload_n 3, 1) := by decide +kernel
theorem dX6_answer_54 : decode cX6_answer 54 = .ok (.invokevirtual 123, 3) := by decide +kernel
theorem dX6_answer_57 : decode cX6_answer 57 = .ok (.ifCond .eq 7, 3) := by decide +kernel
theorem dX6_answer_60 : decode cX6_answer 60 = .ok (.iconst 1, 1) := by decide +kernel
theorem dX6_answer_61 : decode cX6_answer 61 = .ok (.goto 4, 3) := by decide +kernel
theorem dX6_answer_64 : decode cX6_answer 64 = .ok (.iconst 0, 1) := by decide +kernel
theorem dX6_answer_65 : decode cX6_answer 65 = .ok (.invokestatic 81, 3) := by decide +kernel
theorem dX6_answer_68 : decode cX6_answer 68 = .ok (.aload_n 0, 1) := by decide +kernel
theorem dX6_answer_69 : decode cX6_answer 69 = .ok (.iconst 1, 1) := by decide +kernel
theorem dX6_answer_70 : decode cX6_answer 70 = .ok (.invokevirtual 179, 3) := by decide +kernel
theorem dX6_answer_73 : decode cX6_answer 73 = .ok (.new 27, 3) := by decide +kernel
theorem dX6_answer_76 : decode cX6_answer 76 = .ok (.dup, 1) := by decide +kernel
theorem dX6_answer_77 : decode cX6_answer 77 = .ok (.iconst 1, 1) := by decide +kernel
theorem dX6_answer_78 : decode cX6_answer 78 = .ok (.aload 5, 2) := by decide +kernel
theorem dX6_answer_80 : decode cX6_answer 80 = .ok (.iload_n 1, 1) := by decide +kernel
theorem dX6_answer_81 : decode cX6_answer 81 = .ok (.aload 5, 2) := by decide +kernel
theorem dX6_answer_83 : decode cX6_answer 83 = .ok (.getfield 141, 3) := by decide +kernel
theorem dX6_answer_86 : decode cX6_answer 86 = .ok (.aload 6, 2) := by decide +kernel
theorem dX6_answer_88 : decode cX6_answer 88 = .ok (.invokespecial 217, 3) := by decide +kernel
theorem dX6_answer_91 : decode cX6_answer 91 = .ok (.astore 7, 2) := by decide +kernel
theorem dX6_answer_93 : decode cX6_answer 93 = .ok (.aload 7, 2) := by decide +kernel
theorem dX6_answer_95 : decode cX6_answer 95 = .ok (.iload_n 3, 1) := by decide +kernel
theorem dX6_answer_96 : decode cX6_answer 96 = .ok (.putfield 201, 3) := by decide +kernel
theorem dX6_answer_99 : decode cX6_answer 99 = .ok (.aload 7, 2) := by decide +kernel
theorem dX6_answer_101 : decode cX6_answer 101 = .ok (.iload 4, 2) := by decide +kernel
theorem dX6_answer_103 : decode cX6_answer 103 = .ok (.putfield 220, 3) := by decide +kernel
theorem dX6_answer_106 : decode cX6_answer 106 = .ok (.aload_n 0, 1) := by decide +kernel
theorem dX6_answer_107 : decode cX6_answer 107 = .ok (.aload 7, 2) := by decide +kernel
theorem dX6_answer_109 : decode cX6_answer 109 = .ok (.invokevirtual 223, 3) := by decide +kernel
theorem dX6_answer_112 : decode cX6_answer 112 = .ok (.ireturn, 1) := by decide +kernel
theorem lk_X6_answer : LK yX6_answer cX6_answer 8 (some .int) 4 := ⟨qW_at 1253 (by decide +kernel) rfl, qW_at 29 (by decide +kernel) rfl, by decide, by decide, by decide +kernel⟩
theorem im_X6_answer : Cond.instanceMethod yX6_answer ∈ qW := qW_at 1251 (by decide +kernel) rfl
theorem se_X6_answer : Cond.selects RX6 yX6_answer yX6_answer ∈ qW := qW_at 1252 (by decide +kernel) rfl
def F_X6_answer (this : Nat) (person_ : Int32) (meeting_ : Int32) (day_ : Int32) (answer_ : Int32) : QX Int32 :=
  (xb (xb (xp person_) fun v1 => F_X6_needPerson v1) fun _ =>
  (xb (xb (xp (some this)) fun v2 => xb (xp meeting_) fun v3 => xo 7 v2 fun q => F_X6_meetingNumbered q v3) fun answered_4 =>
  (xb (xb (xb (xb (xb (xp day_) fun v5 => xb (xp (-1 : Int32)) fun v6 => xp (decide (v5 = v6))) fun v9 => if v9 then xp true else (xb (xb (xp day_) fun v7 => F_X6_isDay v7) fun v8 => xp (decide (¬ v8 = 0)))) fun v10 => xp (b2i v10)) fun v11 => F_X6_needArgument v11) fun _ =>
  (xb (xb (xp answer_) fun v12 => xb (xp (1 : Int32)) fun v13 => xb (xp (3 : Int32)) fun v14 => F_X6_needRange v12 v13 v14) fun _ =>
  (xb (xb (xp person_) fun v15 => xb (xp answered_4) fun v16 => F_X6_copyThere v15 v16) fun copy_17 =>
  (xb (xb (xb (xb (xb (xp day_) fun v18 => xb (xp (-1 : Int32)) fun v19 => xp (decide (v18 = v19))) fun v23 => if v23 then xp true else (xb (xb (xp copy_17) fun v20 => xb (xp day_) fun v21 => xo 5 v20 fun q => F_X4_isDate q v21) fun v22 => xp (decide (¬ v22 = 0)))) fun v24 => xp (b2i v24)) fun v25 => F_X6_needState v25) fun _ =>
  (xb (xb (xp (some this)) fun v26 => xb (xp (1 : Int32)) fun v27 => xo 7 v26 fun q => F_X6_needRoom q v27) fun _ =>
  (xb (xb (xnew 2) fun r29 => xb (xb (xp (1 : Int32)) fun v30 => xb (xp answered_4) fun v31 => xb (xp person_) fun v32 => xb (xb (xp answered_4) fun v28 => xgi 1 1 v28) fun v33 => xb (xp copy_17) fun v34 => xo 2 r29 fun q => F_X1_init q v30 v31 v32 v33 v34) fun _ => xp r29) fun reply_36 =>
  (xb (xb (xp reply_36) fun v37 => xb (xp day_) fun v38 => xsi 2 5 v37 v38) fun _ =>
  (xb (xb (xp reply_36) fun v39 => xb (xp answer_) fun v40 => xsi 2 7 v39 v40) fun _ =>
  (xb (xp (some this)) fun v41 => xb (xp reply_36) fun v42 => xo 7 v41 fun q => F_X6_putReply q v42)))))))))))
set_option maxRecDepth 100000 in
set_option maxHeartbeats 4000000 in
theorem M_X6_answer (this : Nat) (person_ : Int32) (meeting_ : Int32) (day_ : Int32) (answer_ : Int32) : MM yX6_answer cX6_answer 8 (some .int) 8 123 8 54 encI [.ref this, .int person_, .int meeting_, .int day_, .int answer_] (F_X6_answer this person_ meeting_ day_ answer_) := by
  refine MM_of (env0 := [(0, va_rf (some this)), (1, .int person_), (2, .int meeting_), (3, .int day_), (4, .int answer_)]) (by decide) (by exact Nat.le_of_ble_eq_true rfl) (by rfl) (fun k mm res X C hR hN hr hname h => ?_)
  have X : CX k cX6_answer RX6 := X
  have hT : TH k (fun e m' => res = (.error e, m')) := TH_of C
  have htr := C.2.2.2.1
  unfold F_X6_answer at h
  exact SB_go (T := fun e m' => res = (.error e, m')) (RET := fun v m' => res = (.ok v, m')) (SB_do (XE_1 (pB := pU)  (L_iload_n (x := person_) 1 X dX6_answer_0 rfl rfl) (fun v0 st mm a b hd hc hs h => g_callS (st := st) X hT htr (M_X6_needPerson v0) lk_X6_needPerson st_X6_needPerson ml_X6_72 rfl (by rw [hR]; exact ⟨Nat.le_of_ble_eq_true rfl, Nat.le_of_ble_eq_true rfl⟩) (Nat.le_trans hd (by decide)) ⟨hc, hs⟩ dX6_answer_1 h))
  (SB_let (XE_2 (pB := pR) wR (L_aload_n (r := (some this)) 0 X dX6_answer_4 rfl rfl) (L_iload_n (x := meeting_) 2 X dX6_answer_5 rfl rfl) (fun v0 v1 st mm a b hd hc hs h => g_callVo (st := st) (cI := 7) X hT htr rfl (fun q => M_X6_meetingNumbered q v1) lk_X6_meetingNumbered im_X6_meetingNumbered se_X6_meetingNumbered ml_X6_100 rfl (by rw [hR]; exact ⟨Nat.le_of_ble_eq_true rfl, Nat.le_of_ble_eq_true rfl⟩) (Nat.le_trans hd (by decide)) ⟨hc, hs⟩ dX6_answer_6 h)) (S_astore (ev := fun answered_4 => [(5, va_rf answered_4), (0, va_rf (some this)), (1, .int person_), (2, .int meeting_), (3, .int day_), (4, .int answer_)]) X dX6_answer_9 (by rw [hN]; decide) (fun _ => rfl)) fun answered_4 =>
  (SB_do (XE_1 (pB := pU)  (XE_b2i (CE_or (CE_2 wI (L_iload_n (x := day_) 4 X dX6_answer_11 rfl rfl) (L_iconst (v := (-1)) X dX6_answer_12 (by decide)) (C_eq_T X dX6_answer_13 (by decide))) (CE_1 (XE_1 (pB := pI)  (L_iload_n (x := day_) 4 X dX6_answer_16 rfl rfl) (fun v0 st mm a b hd hc hs h => g_callS (st := st) X hT htr (M_X6_isDay v0) lk_X6_isDay st_X6_isDay ml_X6_210 rfl (by rw [hR]; exact ⟨Nat.le_of_ble_eq_true rfl, Nat.le_of_ble_eq_true rfl⟩) (Nat.le_trans hd (by decide)) ⟨hc, hs⟩ dX6_answer_17 h)) (Z_ne_F X dX6_answer_20 (by decide)))) (S_b1 X dX6_answer_23 dX6_answer_24 (by decide)) (S_b0 X dX6_answer_27)) (fun v0 st mm a b hd hc hs h => g_callS (st := st) X hT htr (M_X6_needArgument v0) lk_X6_needArgument st_X6_needArgument ml_X6_144 rfl (by rw [hR]; exact ⟨Nat.le_of_ble_eq_true rfl, Nat.le_of_ble_eq_true rfl⟩) (Nat.le_trans hd (by decide)) ⟨hc, hs⟩ dX6_answer_28 h))
  (SB_do (XE_3 (pB := pU) wI wI (L_iload (x := answer_) 5 X dX6_answer_31 rfl) (L_iconst (v := 1) X dX6_answer_33 (by decide)) (L_iconst (v := 3) X dX6_answer_34 (by decide)) (fun v0 v1 v2 st mm a b hd hc hs h => g_callS (st := st) X hT htr (M_X6_needRange v0 v1 v2) lk_X6_needRange st_X6_needRange ml_X6_47 rfl (by rw [hR]; exact ⟨Nat.le_of_ble_eq_true rfl, Nat.le_of_ble_eq_true rfl⟩) (Nat.le_trans hd (by decide)) ⟨hc, hs⟩ dX6_answer_35 h))
  (SB_let (XE_2 (pB := pR) wI (L_iload_n (x := person_) 2 X dX6_answer_38 rfl rfl) (L_aload (r := answered_4) 0 X dX6_answer_39 rfl) (fun v0 v1 st mm a b hd hc hs h => g_callS (st := st) X hT htr (M_X6_copyThere v0 v1) lk_X6_copyThere st_X6_copyThere ml_X6_213 rfl (by rw [hR]; exact ⟨Nat.le_of_ble_eq_true rfl, Nat.le_of_ble_eq_true rfl⟩) (Nat.le_trans hd (by decide)) ⟨hc, hs⟩ dX6_answer_41 h)) (S_astore (ev := fun copy_17 => [(6, va_rf copy_17), (5, va_rf answered_4), (0, va_rf (some this)), (1, .int person_), (2, .int meeting_), (3, .int day_), (4, .int answer_)]) X dX6_answer_44 (by rw [hN]; decide) (fun _ => (by cases answered_4 <;> rfl))) fun copy_17 =>
  (SB_do (XE_1 (pB := pU)  (XE_b2i (CE_or (CE_2 wI (L_iload_n (x := day_) 5 X dX6_answer_46 rfl rfl) (L_iconst (v := (-1)) X dX6_answer_47 (by decide)) (C_eq_T X dX6_answer_48 (by decide))) (CE_1 (XE_2 (pB := pI) wR (L_aload (r := copy_17) 0 X dX6_answer_51 rfl) (L_iload_n (x := day_) 5 X dX6_answer_53 rfl rfl) (fun v0 v1 st mm a b hd hc hs h => g_callVo (st := st) (cI := 5) X hT htr rfl (fun q => M_X4_isDate q v1) lk_X4_isDate im_X4_isDate se_X4_isDate ml_X6_123 rfl (by rw [hR]; exact ⟨Nat.le_of_ble_eq_true rfl, Nat.le_of_ble_eq_true rfl⟩) (Nat.le_trans hd (by decide)) ⟨hc, hs⟩ dX6_answer_54 h)) (Z_ne_F X dX6_answer_57 (by decide)))) (S_b1 X dX6_answer_60 dX6_answer_61 (by decide)) (S_b0 X dX6_answer_64)) (fun v0 st mm a b hd hc hs h => g_callS (st := st) X hT htr (M_X6_needState v0) lk_X6_needState st_X6_needState ml_X6_81 rfl (by rw [hR]; exact ⟨Nat.le_of_ble_eq_true rfl, Nat.le_of_ble_eq_true rfl⟩) (Nat.le_trans hd (by decide)) ⟨hc, hs⟩ dX6_answer_65 h))
  (SB_do (XE_2 (pB := pU) wR (L_aload_n (r := (some this)) 2 X dX6_answer_68 rfl rfl) (L_iconst (v := 1) X dX6_answer_69 (by decide)) (fun v0 v1 st mm a b hd hc hs h => g_callVo (st := st) (cI := 7) X hT htr rfl (fun q => M_X6_needRoom q v1) lk_X6_needRoom im_X6_needRoom se_X6_needRoom ml_X6_179 rfl (by rw [hR]; exact ⟨Nat.le_of_ble_eq_true rfl, Nat.le_of_ble_eq_true rfl⟩) (Nat.le_trans hd (by decide)) ⟨hc, hs⟩ dX6_answer_70 h))
  (SB_let (XE_new (c := 2) (ks0 := 12) (kc0 := 1) (fun st mm a b hc hs h => g_new (c := 2) tyX1 X rfl inW1 tyX1_ok cl_X6_27 in_1 ii_1 (by decide +kernel) hc hs dX6_answer_73 h) (S_dup X dX6_answer_76) (OP_args5 wI wR wI wI (L_iconst (v := 1) X dX6_answer_77 (by decide)) (L_aload (r := answered_4) 1 X dX6_answer_78 rfl) (L_iload_n (x := person_) 3 X dX6_answer_80 rfl rfl) (XE_1 (L_aload (r := answered_4) 1 X dX6_answer_81 rfl) (O_gi (c := 1) (j := 1) X rfl inW0 (by decide) fl_X6_141 rfl dX6_answer_83)) (L_aload (r := copy_17) 0 X dX6_answer_86 rfl) (fun r v0 v1 v2 v3 v4 st mm a b hd hc hs h => g_callIo (st := st) (cI := 2) X hT htr (fun q => M_X1_init q v0 v1 v2 v3 v4) lk_X1_init im_X1_init rfl ml_X6_217 rfl (by rw [hR]; exact ⟨Nat.le_of_ble_eq_true rfl, Nat.le_of_ble_eq_true rfl⟩) (Nat.le_trans hd (by decide)) ⟨hc, hs⟩ dX6_answer_88 h)) rfl) (S_astore (ev := fun reply_36 => [(7, va_rf reply_36), (6, va_rf copy_17), (5, va_rf answered_4), (0, va_rf (some this)), (1, .int person_), (2, .int meeting_), (3, .int day_), (4, .int answer_)]) X dX6_answer_91 (by rw [hN]; decide) (fun _ => (by cases copy_17 <;> rfl))) fun reply_36 =>
  (SB_do (XE_2 wR (L_aload (r := reply_36) 0 X dX6_answer_93 rfl) (L_iload_n (x := day_) 6 X dX6_answer_95 rfl rfl) (O_si (c := 2) (j := 5) tyX1 X rfl inW1 tyX1_ok nmX1 (by decide) fl_X6_201 (Or.inl rfl) rfl (by decide +kernel) dX6_answer_96))
  (SB_do (XE_2 wR (L_aload (r := reply_36) 0 X dX6_answer_99 rfl) (L_iload (x := answer_) 7 X dX6_answer_101 rfl) (O_si (c := 2) (j := 7) tyX1 X rfl inW1 tyX1_ok nmX1 (by decide) fl_X6_220 (Or.inl rfl) rfl (by decide +kernel) dX6_answer_103))
  (SB_retI X C hr dX6_answer_112 (XE_2 (pB := pI) wR (L_aload_n (r := (some this)) 3 X dX6_answer_106 rfl rfl) (L_aload (r := reply_36) 0 X dX6_answer_107 rfl) (fun v0 v1 st mm a b hd hc hs h => g_callVo (st := st) (cI := 7) X hT htr rfl (fun q => M_X6_putReply q v1) lk_X6_putReply im_X6_putReply se_X6_putReply ml_X6_223 rfl (by rw [hR]; exact ⟨Nat.le_of_ble_eq_true rfl, Nat.le_of_ble_eq_true rfl⟩) (Nat.le_trans hd (by decide)) ⟨hc, hs⟩ dX6_answer_109 h))))))))))))) h (by rw [hR]; decide) (by rw [hR]; decide)
theorem dX6_delegate_0 : decode cX6_delegate 0 = .ok (.iload_n 1, 1) := by decide +kernel
theorem dX6_delegate_1 : decode cX6_delegate 1 = .ok (.invokestatic 72, 3) := by decide +kernel
theorem dX6_delegate_4 : decode cX6_delegate 4 = .ok (.iload_n 3, 1) := by decide +kernel
theorem dX6_delegate_5 : decode cX6_delegate 5 = .ok (.invokestatic 72, 3) := by decide +kernel
theorem dX6_delegate_8 : decode cX6_delegate 8 = .ok (.aload_n 0, 1) := by decide +kernel
theorem dX6_delegate_9 : decode cX6_delegate 9 = .ok (.iload_n 2, 1) := by decide +kernel
theorem dX6_delegate_10 : decode cX6_delegate 10 = .ok (.invokevirtual 100, 3) := by decide +kernel
theorem dX6_delegate_13 : decode cX6_delegate 13 = .ok (.astore 4, 2) := by decide +kernel
theorem dX6_delegate_15 : decode cX6_delegate 15 = .ok (.iload_n 3, 1) := by decide +kernel
theorem dX6_delegate_16 : decode cX6_delegate 16 = .ok (.iload_n 1, 1) := by decide +kernel
theorem dX6_delegate_17 : decode cX6_delegate 17 = .ok (.if_icmp .eq 16, 3) := by decide +kernel
theorem dX6_delegate_20 : decode cX6_delegate 20 = .ok (.iload_n 3, 1) := by decide +kernel
theorem dX6_delegate_21 : decode cX6_delegate 21 = .ok (.aload 4, 2) := by decide +kernel
theorem dX6_delegate_23 : decode cX6_delegate 23 = .ok (.getfield 141, 3) := by decide +kernel
theorem dX6_delegate_26 : decode cX6_delegate 26 = .ok (.if_icmp .eq 7, 3) := by decide +kernel
theorem dX6_delegate_29 : decode cX6_delegate 29 = .ok (.iconst 1, 1) := by decide +kernel
theorem dX6_delegate_30 : decode cX6_delegate 30 = .ok (.goto 4, 3) := by decide +kernel
theorem dX6_delegate_33 : decode cX6_delegate 33 = .ok (.iconst 0, 1) := by decide +kernel
theorem dX6_delegate_34 : decode cX6_delegate 34 = .ok (.invokestatic 144, 3) := by decide +kernel
theorem dX6_delegate_37 : decode cX6_delegate 37 = .ok (.iload_n 1, 1) := by decide +kernel
theorem dX6_delegate_38 : decode cX6_delegate 38 = .ok (.aload 4, 2) := by decide +kernel
theorem dX6_delegate_40 : decode cX6_delegate 40 = .ok (.invokestatic 213, 3) := by decide +kernel
theorem dX6_delegate_43 : decode cX6_delegate 43 = .ok (.astore 5, 2) := by decide +kernel
theorem dX6_delegate_45 : decode cX6_delegate 45 = .ok (.aload_n 0, 1) := by decide +kernel
theorem dX6_delegate_46 : decode cX6_delegate 46 = .ok (.iconst 2, 1) := by decide +kernel
theorem dX6_delegate_47 : decode cX6_delegate 47 = .ok (.invokevirtual 179, 3) := by decide +kernel
theorem dX6_delegate_50 : decode cX6_delegate 50 = .ok (.new 27, 3) := by decide +kernel
theorem dX6_delegate_53 : decode cX6_delegate 53 = .ok (.dup, 1) := by decide +kernel
theorem dX6_delegate_54 : decode cX6_delegate 54 = .ok (.iconst 1, 1) := by decide +kernel
theorem dX6_delegate_55 : decode cX6_delegate 55 = .ok (.aload 4, 2) := by decide +kernel
theorem dX6_delegate_57 : decode cX6_delegate 57 = .ok (.iload_n 1, 1) := by decide +kernel
theorem dX6_delegate_58 : decode cX6_delegate 58 = .ok (.aload 4, 2) := by decide +kernel
theorem dX6_delegate_60 : decode cX6_delegate 60 = .ok (.getfield 141, 3) := by decide +kernel
theorem dX6_delegate_63 : decode cX6_delegate 63 = .ok (.aload 5, 2) := by decide +kernel
theorem dX6_delegate_65 : decode cX6_delegate 65 = .ok (.invokespecial 217, 3) := by decide +kernel
theorem dX6_delegate_68 : decode cX6_delegate 68 = .ok (.astore 6, 2) := by decide +kernel
theorem dX6_delegate_70 : decode cX6_delegate 70 = .ok (.aload 6, 2) := by decide +kernel
theorem dX6_delegate_72 : decode cX6_delegate 72 = .ok (.iconst 4, 1) := by decide +kernel
theorem dX6_delegate_73 : decode cX6_delegate 73 = .ok (.putfield 220, 3) := by decide +kernel
theorem dX6_delegate_76 : decode cX6_delegate 76 = .ok (.aload 6, 2) := by decide +kernel
theorem dX6_delegate_78 : decode cX6_delegate 78 = .ok (.iload_n 3, 1) := by decide +kernel
theorem dX6_delegate_79 : decode cX6_delegate 79 = .ok (.putfield 227, 3) := by decide +kernel
theorem dX6_delegate_82 : decode cX6_delegate 82 = .ok (.aload_n 0, 1) := by decide +kernel
theorem dX6_delegate_83 : decode cX6_delegate 83 = .ok (.aload 6, 2) := by decide +kernel
theorem dX6_delegate_85 : decode cX6_delegate 85 = .ok (.invokevirtual 223, 3) := by decide +kernel
theorem dX6_delegate_88 : decode cX6_delegate 88 = .ok (.istore 7, 2) := by decide +kernel
theorem dX6_delegate_90 : decode cX6_delegate 90 = .ok (.aload_n 0, 1) := by decide +kernel
theorem dX6_delegate_91 : decode cX6_delegate 91 = .ok (.aload 4, 2) := by decide +kernel
theorem dX6_delegate_93 : decode cX6_delegate 93 = .ok (.iload_n 1, 1) := by decide +kernel
theorem dX6_delegate_94 : decode cX6_delegate 94 = .ok (.iload_n 3, 1) := by decide +kernel
theorem dX6_delegate_95 : decode cX6_delegate 95 = .ok (.aload 5, 2) := by decide +kernel
theorem dX6_delegate_97 : decode cX6_delegate 97 = .ok (.invokevirtual 182, 3) := by decide +kernel
theorem dX6_delegate_100 : decode cX6_delegate 100 = .ok (.iload 7, 2) := by decide +kernel
theorem dX6_delegate_102 : decode cX6_delegate 102 = .ok (.ireturn, 1) := by decide +kernel
theorem lk_X6_delegate : LK yX6_delegate cX6_delegate 8 (some .int) 3 := ⟨qW_at 1267 (by decide +kernel) rfl, qW_at 29 (by decide +kernel) rfl, by decide, by decide, by decide +kernel⟩
theorem im_X6_delegate : Cond.instanceMethod yX6_delegate ∈ qW := qW_at 1265 (by decide +kernel) rfl
theorem se_X6_delegate : Cond.selects RX6 yX6_delegate yX6_delegate ∈ qW := qW_at 1266 (by decide +kernel) rfl
def F_X6_delegate (this : Nat) (person_ : Int32) (meeting_ : Int32) (other_ : Int32) : QX Int32 :=
  (xb (xb (xp person_) fun v1 => F_X6_needPerson v1) fun _ =>
  (xb (xb (xp other_) fun v2 => F_X6_needPerson v2) fun _ =>
  (xb (xb (xp (some this)) fun v3 => xb (xp meeting_) fun v4 => xo 7 v3 fun q => F_X6_meetingNumbered q v4) fun delegated_5 =>
  (xb (xb (xb (xb (xb (xp other_) fun v6 => xb (xp person_) fun v7 => xp (decide (¬ v6 = v7))) fun v11 => if v11 then (xb (xp other_) fun v8 => xb (xb (xp delegated_5) fun v9 => xgi 1 1 v9) fun v10 => xp (decide (¬ v8 = v10))) else xp false) fun v12 => xp (b2i v12)) fun v13 => F_X6_needArgument v13) fun _ =>
  (xb (xb (xp person_) fun v14 => xb (xp delegated_5) fun v15 => F_X6_copyThere v14 v15) fun copy_16 =>
  (xb (xb (xp (some this)) fun v17 => xb (xp (2 : Int32)) fun v18 => xo 7 v17 fun q => F_X6_needRoom q v18) fun _ =>
  (xb (xb (xnew 2) fun r20 => xb (xb (xp (1 : Int32)) fun v21 => xb (xp delegated_5) fun v22 => xb (xp person_) fun v23 => xb (xb (xp delegated_5) fun v19 => xgi 1 1 v19) fun v24 => xb (xp copy_16) fun v25 => xo 2 r20 fun q => F_X1_init q v21 v22 v23 v24 v25) fun _ => xp r20) fun reply_27 =>
  (xb (xb (xp reply_27) fun v28 => xb (xp (4 : Int32)) fun v29 => xsi 2 7 v28 v29) fun _ =>
  (xb (xb (xp reply_27) fun v30 => xb (xp other_) fun v31 => xsi 2 8 v30 v31) fun _ =>
  (xb (xb (xp (some this)) fun v32 => xb (xp reply_27) fun v33 => xo 7 v32 fun q => F_X6_putReply q v33) fun number_34 =>
  (xb (xb (xp (some this)) fun v35 => xb (xp delegated_5) fun v36 => xb (xp person_) fun v37 => xb (xp other_) fun v38 => xb (xp copy_16) fun v39 => xo 7 v35 fun q => F_X6_putRequest q v36 v37 v38 v39) fun _ =>
  (xp number_34))))))))))))
set_option maxRecDepth 100000 in
set_option maxHeartbeats 4000000 in
theorem M_X6_delegate (this : Nat) (person_ : Int32) (meeting_ : Int32) (other_ : Int32) : MM yX6_delegate cX6_delegate 8 (some .int) 8 122 8 60 encI [.ref this, .int person_, .int meeting_, .int other_] (F_X6_delegate this person_ meeting_ other_) := by
  refine MM_of (env0 := [(0, va_rf (some this)), (1, .int person_), (2, .int meeting_), (3, .int other_)]) (by decide) (by exact Nat.le_of_ble_eq_true rfl) (by rfl) (fun k mm res X C hR hN hr hname h => ?_)
  have X : CX k cX6_delegate RX6 := X
  have hT : TH k (fun e m' => res = (.error e, m')) := TH_of C
  have htr := C.2.2.2.1
  unfold F_X6_delegate at h
  exact SB_go (T := fun e m' => res = (.error e, m')) (RET := fun v m' => res = (.ok v, m')) (SB_do (XE_1 (pB := pU)  (L_iload_n (x := person_) 1 X dX6_delegate_0 rfl rfl) (fun v0 st mm a b hd hc hs h => g_callS (st := st) X hT htr (M_X6_needPerson v0) lk_X6_needPerson st_X6_needPerson ml_X6_72 rfl (by rw [hR]; exact ⟨Nat.le_of_ble_eq_true rfl, Nat.le_of_ble_eq_true rfl⟩) (Nat.le_trans hd (by decide)) ⟨hc, hs⟩ dX6_delegate_1 h))
  (SB_do (XE_1 (pB := pU)  (L_iload_n (x := other_) 3 X dX6_delegate_4 rfl rfl) (fun v0 st mm a b hd hc hs h => g_callS (st := st) X hT htr (M_X6_needPerson v0) lk_X6_needPerson st_X6_needPerson ml_X6_72 rfl (by rw [hR]; exact ⟨Nat.le_of_ble_eq_true rfl, Nat.le_of_ble_eq_true rfl⟩) (Nat.le_trans hd (by decide)) ⟨hc, hs⟩ dX6_delegate_5 h))
  (SB_let (XE_2 (pB := pR) wR (L_aload_n (r := (some this)) 0 X dX6_delegate_8 rfl rfl) (L_iload_n (x := meeting_) 2 X dX6_delegate_9 rfl rfl) (fun v0 v1 st mm a b hd hc hs h => g_callVo (st := st) (cI := 7) X hT htr rfl (fun q => M_X6_meetingNumbered q v1) lk_X6_meetingNumbered im_X6_meetingNumbered se_X6_meetingNumbered ml_X6_100 rfl (by rw [hR]; exact ⟨Nat.le_of_ble_eq_true rfl, Nat.le_of_ble_eq_true rfl⟩) (Nat.le_trans hd (by decide)) ⟨hc, hs⟩ dX6_delegate_10 h)) (S_astore (ev := fun delegated_5 => [(4, va_rf delegated_5), (0, va_rf (some this)), (1, .int person_), (2, .int meeting_), (3, .int other_)]) X dX6_delegate_13 (by rw [hN]; decide) (fun _ => rfl)) fun delegated_5 =>
  (SB_do (XE_1 (pB := pU)  (XE_b2i (CE_and (CE_2 wI (L_iload_n (x := other_) 4 X dX6_delegate_15 rfl rfl) (L_iload_n (x := person_) 2 X dX6_delegate_16 rfl rfl) (C_ne_F X dX6_delegate_17 (by decide))) (CE_2 wI (L_iload_n (x := other_) 4 X dX6_delegate_20 rfl rfl) (XE_1 (L_aload (r := delegated_5) 0 X dX6_delegate_21 rfl) (O_gi (c := 1) (j := 1) X rfl inW0 (by decide) fl_X6_141 rfl dX6_delegate_23)) (C_ne_F X dX6_delegate_26 (by decide)))) (S_b1 X dX6_delegate_29 dX6_delegate_30 (by decide)) (S_b0 X dX6_delegate_33)) (fun v0 st mm a b hd hc hs h => g_callS (st := st) X hT htr (M_X6_needArgument v0) lk_X6_needArgument st_X6_needArgument ml_X6_144 rfl (by rw [hR]; exact ⟨Nat.le_of_ble_eq_true rfl, Nat.le_of_ble_eq_true rfl⟩) (Nat.le_trans hd (by decide)) ⟨hc, hs⟩ dX6_delegate_34 h))
  (SB_let (XE_2 (pB := pR) wI (L_iload_n (x := person_) 2 X dX6_delegate_37 rfl rfl) (L_aload (r := delegated_5) 0 X dX6_delegate_38 rfl) (fun v0 v1 st mm a b hd hc hs h => g_callS (st := st) X hT htr (M_X6_copyThere v0 v1) lk_X6_copyThere st_X6_copyThere ml_X6_213 rfl (by rw [hR]; exact ⟨Nat.le_of_ble_eq_true rfl, Nat.le_of_ble_eq_true rfl⟩) (Nat.le_trans hd (by decide)) ⟨hc, hs⟩ dX6_delegate_40 h)) (S_astore (ev := fun copy_16 => [(5, va_rf copy_16), (4, va_rf delegated_5), (0, va_rf (some this)), (1, .int person_), (2, .int meeting_), (3, .int other_)]) X dX6_delegate_43 (by rw [hN]; decide) (fun _ => (by cases delegated_5 <;> rfl))) fun copy_16 =>
  (SB_do (XE_2 (pB := pU) wR (L_aload_n (r := (some this)) 2 X dX6_delegate_45 rfl rfl) (L_iconst (v := 2) X dX6_delegate_46 (by decide)) (fun v0 v1 st mm a b hd hc hs h => g_callVo (st := st) (cI := 7) X hT htr rfl (fun q => M_X6_needRoom q v1) lk_X6_needRoom im_X6_needRoom se_X6_needRoom ml_X6_179 rfl (by rw [hR]; exact ⟨Nat.le_of_ble_eq_true rfl, Nat.le_of_ble_eq_true rfl⟩) (Nat.le_trans hd (by decide)) ⟨hc, hs⟩ dX6_delegate_47 h))
  (SB_let (XE_new (c := 2) (ks0 := 12) (kc0 := 1) (fun st mm a b hc hs h => g_new (c := 2) tyX1 X rfl inW1 tyX1_ok cl_X6_27 in_1 ii_1 (by decide +kernel) hc hs dX6_delegate_50 h) (S_dup X dX6_delegate_53) (OP_args5 wI wR wI wI (L_iconst (v := 1) X dX6_delegate_54 (by decide)) (L_aload (r := delegated_5) 1 X dX6_delegate_55 rfl) (L_iload_n (x := person_) 3 X dX6_delegate_57 rfl rfl) (XE_1 (L_aload (r := delegated_5) 1 X dX6_delegate_58 rfl) (O_gi (c := 1) (j := 1) X rfl inW0 (by decide) fl_X6_141 rfl dX6_delegate_60)) (L_aload (r := copy_16) 0 X dX6_delegate_63 rfl) (fun r v0 v1 v2 v3 v4 st mm a b hd hc hs h => g_callIo (st := st) (cI := 2) X hT htr (fun q => M_X1_init q v0 v1 v2 v3 v4) lk_X1_init im_X1_init rfl ml_X6_217 rfl (by rw [hR]; exact ⟨Nat.le_of_ble_eq_true rfl, Nat.le_of_ble_eq_true rfl⟩) (Nat.le_trans hd (by decide)) ⟨hc, hs⟩ dX6_delegate_65 h)) rfl) (S_astore (ev := fun reply_27 => [(6, va_rf reply_27), (5, va_rf copy_16), (4, va_rf delegated_5), (0, va_rf (some this)), (1, .int person_), (2, .int meeting_), (3, .int other_)]) X dX6_delegate_68 (by rw [hN]; decide) (fun _ => (by cases copy_16 <;> rfl))) fun reply_27 =>
  (SB_do (XE_2 wR (L_aload (r := reply_27) 0 X dX6_delegate_70 rfl) (L_iconst (v := 4) X dX6_delegate_72 (by decide)) (O_si (c := 2) (j := 7) tyX1 X rfl inW1 tyX1_ok nmX1 (by decide) fl_X6_220 (Or.inl rfl) rfl (by decide +kernel) dX6_delegate_73))
  (SB_do (XE_2 wR (L_aload (r := reply_27) 0 X dX6_delegate_76 rfl) (L_iload_n (x := other_) 6 X dX6_delegate_78 rfl rfl) (O_si (c := 2) (j := 8) tyX1 X rfl inW1 tyX1_ok nmX1 (by decide) fl_X6_227 (Or.inl rfl) rfl (by decide +kernel) dX6_delegate_79))
  (SB_let (XE_2 (pB := pI) wR (L_aload_n (r := (some this)) 3 X dX6_delegate_82 rfl rfl) (L_aload (r := reply_27) 0 X dX6_delegate_83 rfl) (fun v0 v1 st mm a b hd hc hs h => g_callVo (st := st) (cI := 7) X hT htr rfl (fun q => M_X6_putReply q v1) lk_X6_putReply im_X6_putReply se_X6_putReply ml_X6_223 rfl (by rw [hR]; exact ⟨Nat.le_of_ble_eq_true rfl, Nat.le_of_ble_eq_true rfl⟩) (Nat.le_trans hd (by decide)) ⟨hc, hs⟩ dX6_delegate_85 h)) (S_istore (ev := fun number_34 => [(7, .int number_34), (6, va_rf reply_27), (5, va_rf copy_16), (4, va_rf delegated_5), (0, va_rf (some this)), (1, .int person_), (2, .int meeting_), (3, .int other_)]) X dX6_delegate_88 (by rw [hN]; decide) (fun _ => (by cases reply_27 <;> rfl))) fun number_34 =>
  (SB_do (XE_5 (pB := pU) wR wR wI wI (L_aload_n (r := (some this)) 4 X dX6_delegate_90 rfl rfl) (L_aload (r := delegated_5) 3 X dX6_delegate_91 rfl) (L_iload_n (x := person_) 5 X dX6_delegate_93 rfl rfl) (L_iload_n (x := other_) 7 X dX6_delegate_94 rfl rfl) (L_aload (r := copy_16) 2 X dX6_delegate_95 rfl) (fun v0 v1 v2 v3 v4 st mm a b hd hc hs h => g_callVo (st := st) (cI := 7) X hT htr rfl (fun q => M_X6_putRequest q v1 v2 v3 v4) lk_X6_putRequest im_X6_putRequest se_X6_putRequest ml_X6_182 rfl (by rw [hR]; exact ⟨Nat.le_of_ble_eq_true rfl, Nat.le_of_ble_eq_true rfl⟩) (Nat.le_trans hd (by decide)) ⟨hc, hs⟩ dX6_delegate_97 h))
  (SB_retI X C hr dX6_delegate_102 (L_iload (x := number_34) 0 X dX6_delegate_100 rfl))))))))))))) h (by rw [hR]; decide) (by rw [hR]; decide)
theorem dX6_propose_0 : decode cX6_propose 0 = .ok (.iload_n 1, 1) := by decide +kernel
theorem dX6_propose_1 : decode cX6_propose 1 = .ok (.invokestatic 72, 3) := by decide +kernel
theorem dX6_propose_4 : decode cX6_propose 4 = .ok (.aload_n 0, 1) := by decide +kernel
theorem dX6_propose_5 : decode cX6_propose 5 = .ok (.iload_n 2, 1) := by decide +kernel
theorem dX6_propose_6 : decode cX6_propose 6 = .ok (.invokevirtual 100, 3) := by decide +kernel
theorem dX6_propose_9 : decode cX6_propose 9 = .ok (.astore 5, 2) := by decide +kernel
theorem dX6_propose_11 : decode cX6_propose 11 = .ok (.iload_n 3, 1) := by decide +kernel
theorem dX6_propose_12 : decode cX6_propose 12 = .ok (.invokestatic 55, 3) := by decide +kernel
theorem dX6_propose_15 : decode cX6_propose 15 = .ok (.iload 4, 2) := by decide +kernel
theorem dX6_propose_17 : decode cX6_propose 17 = .ok (.invokestatic 134, 3) := by decide +kernel
theorem dX6_propose_20 : decode cX6_propose 20 = .ok (.iload_n 1, 1) := by decide +kernel
theorem dX6_propose_21 : decode cX6_propose 21 = .ok (.aload 5, 2) := by decide +kernel
theorem dX6_propose_23 : decode cX6_propose 23 = .ok (.invokestatic 213, 3) := by decide +kernel
theorem dX6_propose_26 : decode cX6_propose 26 = .ok (.astore 6, 2) := by decide +kernel
theorem dX6_propose_28 : decode cX6_propose 28 = .ok (.aload 6, 2) := by decide +kernel
theorem dX6_propose_30 : decode cX6_propose 30 = .ok (.iload_n 3, 1) := by decide +kernel
theorem dX6_propose_31 : decode cX6_propose 31 = .ok (.invokevirtual 123, 3) := by decide +kernel
theorem dX6_propose_34 : decode cX6_propose 34 = .ok (.invokestatic 81, 3) := by decide +kernel
theorem dX6_propose_37 : decode cX6_propose 37 = .ok (.aload_n 0, 1) := by decide +kernel
theorem dX6_propose_38 : decode cX6_propose 38 = .ok (.iconst 1, 1) := by decide +kernel
theorem dX6_propose_39 : decode cX6_propose 39 = .ok (.invokevirtual 179, 3) := by decide +kernel
theorem dX6_propose_42 : decode cX6_propose 42 = .ok (.new 27, 3) := by decide +kernel
theorem dX6_propose_45 : decode cX6_propose 45 = .ok (.dup, 1) := by decide +kernel
theorem dX6_propose_46 : decode cX6_propose 46 = .ok (.iconst 2, 1) := by decide +kernel
theorem dX6_propose_47 : decode cX6_propose 47 = .ok (.aload 5, 2) := by decide +kernel
theorem dX6_propose_49 : decode cX6_propose 49 = .ok (.iload_n 1, 1) := by decide +kernel
theorem dX6_propose_50 : decode cX6_propose 50 = .ok (.aload 5, 2) := by decide +kernel
theorem dX6_propose_52 : decode cX6_propose 52 = .ok (.getfield 141, 3) := by decide +kernel
theorem dX6_propose_55 : decode cX6_propose 55 = .ok (.aload 6, 2) := by decide +kernel
theorem dX6_propose_57 : decode cX6_propose 57 = .ok (.invokespecial 217, 3) := by decide +kernel
theorem dX6_propose_60 : decode cX6_propose 60 = .ok (.astore 7, 2) := by decide +kernel
theorem dX6_propose_62 : decode cX6_propose 62 = .ok (.aload 7, 2) := by decide +kernel
theorem dX6_propose_64 : decode cX6_propose 64 = .ok (.iload_n 3, 1) := by decide +kernel
theorem dX6_propose_65 : decode cX6_propose 65 = .ok (.putfield 201, 3) := by decide +kernel
theorem dX6_propose_68 : decode cX6_propose 68 = .ok (.aload 7, 2) := by decide +kernel
theorem dX6_propose_70 : decode cX6_propose 70 = .ok (.iload 4, 2) := by decide +kernel
theorem dX6_propose_72 : decode cX6_propose 72 = .ok (.putfield 204, 3) := by decide +kernel
theorem dX6_propose_75 : decode cX6_propose 75 = .ok (.aload_n 0, 1) := by decide +kernel
theorem dX6_propose_76 : decode cX6_propose 76 = .ok (.aload 7, 2) := by decide +kernel
theorem dX6_propose_78 : decode cX6_propose 78 = .ok (.invokevirtual 230, 3) := by decide +kernel
theorem dX6_propose_81 : decode cX6_propose 81 = .ok (.ireturn, 1) := by decide +kernel
theorem lk_X6_propose : LK yX6_propose cX6_propose 8 (some .int) 4 := ⟨qW_at 1288 (by decide +kernel) rfl, qW_at 29 (by decide +kernel) rfl, by decide, by decide, by decide +kernel⟩
theorem im_X6_propose : Cond.instanceMethod yX6_propose ∈ qW := qW_at 1286 (by decide +kernel) rfl
theorem se_X6_propose : Cond.selects RX6 yX6_propose yX6_propose ∈ qW := qW_at 1287 (by decide +kernel) rfl
def F_X6_propose (this : Nat) (person_ : Int32) (meeting_ : Int32) (day_ : Int32) (local_ : Int32) : QX Int32 :=
  (xb (xb (xp person_) fun v1 => F_X6_needPerson v1) fun _ =>
  (xb (xb (xp (some this)) fun v2 => xb (xp meeting_) fun v3 => xo 7 v2 fun q => F_X6_meetingNumbered q v3) fun proposed_4 =>
  (xb (xb (xp day_) fun v5 => F_X6_needDay v5) fun _ =>
  (xb (xb (xp local_) fun v6 => F_X6_needDateHour v6) fun _ =>
  (xb (xb (xp person_) fun v7 => xb (xp proposed_4) fun v8 => F_X6_copyThere v7 v8) fun copy_9 =>
  (xb (xb (xb (xp copy_9) fun v10 => xb (xp day_) fun v11 => xo 5 v10 fun q => F_X4_isDate q v11) fun v12 => F_X6_needState v12) fun _ =>
  (xb (xb (xp (some this)) fun v13 => xb (xp (1 : Int32)) fun v14 => xo 7 v13 fun q => F_X6_needRoom q v14) fun _ =>
  (xb (xb (xnew 2) fun r16 => xb (xb (xp (2 : Int32)) fun v17 => xb (xp proposed_4) fun v18 => xb (xp person_) fun v19 => xb (xb (xp proposed_4) fun v15 => xgi 1 1 v15) fun v20 => xb (xp copy_9) fun v21 => xo 2 r16 fun q => F_X1_init q v17 v18 v19 v20 v21) fun _ => xp r16) fun proposal_23 =>
  (xb (xb (xp proposal_23) fun v24 => xb (xp day_) fun v25 => xsi 2 5 v24 v25) fun _ =>
  (xb (xb (xp proposal_23) fun v26 => xb (xp local_) fun v27 => xsi 2 6 v26 v27) fun _ =>
  (xb (xp (some this)) fun v28 => xb (xp proposal_23) fun v29 => xo 7 v28 fun q => F_X6_putMessage q v29)))))))))))
set_option maxRecDepth 100000 in
set_option maxHeartbeats 4000000 in
theorem M_X6_propose (this : Nat) (person_ : Int32) (meeting_ : Int32) (day_ : Int32) (local_ : Int32) : MM yX6_propose cX6_propose 8 (some .int) 9 143 8 54 encI [.ref this, .int person_, .int meeting_, .int day_, .int local_] (F_X6_propose this person_ meeting_ day_ local_) := by
  refine MM_of (env0 := [(0, va_rf (some this)), (1, .int person_), (2, .int meeting_), (3, .int day_), (4, .int local_)]) (by decide) (by exact Nat.le_of_ble_eq_true rfl) (by rfl) (fun k mm res X C hR hN hr hname h => ?_)
  have X : CX k cX6_propose RX6 := X
  have hT : TH k (fun e m' => res = (.error e, m')) := TH_of C
  have htr := C.2.2.2.1
  unfold F_X6_propose at h
  exact SB_go (T := fun e m' => res = (.error e, m')) (RET := fun v m' => res = (.ok v, m')) (SB_do (XE_1 (pB := pU)  (L_iload_n (x := person_) 1 X dX6_propose_0 rfl rfl) (fun v0 st mm a b hd hc hs h => g_callS (st := st) X hT htr (M_X6_needPerson v0) lk_X6_needPerson st_X6_needPerson ml_X6_72 rfl (by rw [hR]; exact ⟨Nat.le_of_ble_eq_true rfl, Nat.le_of_ble_eq_true rfl⟩) (Nat.le_trans hd (by decide)) ⟨hc, hs⟩ dX6_propose_1 h))
  (SB_let (XE_2 (pB := pR) wR (L_aload_n (r := (some this)) 0 X dX6_propose_4 rfl rfl) (L_iload_n (x := meeting_) 2 X dX6_propose_5 rfl rfl) (fun v0 v1 st mm a b hd hc hs h => g_callVo (st := st) (cI := 7) X hT htr rfl (fun q => M_X6_meetingNumbered q v1) lk_X6_meetingNumbered im_X6_meetingNumbered se_X6_meetingNumbered ml_X6_100 rfl (by rw [hR]; exact ⟨Nat.le_of_ble_eq_true rfl, Nat.le_of_ble_eq_true rfl⟩) (Nat.le_trans hd (by decide)) ⟨hc, hs⟩ dX6_propose_6 h)) (S_astore (ev := fun proposed_4 => [(5, va_rf proposed_4), (0, va_rf (some this)), (1, .int person_), (2, .int meeting_), (3, .int day_), (4, .int local_)]) X dX6_propose_9 (by rw [hN]; decide) (fun _ => rfl)) fun proposed_4 =>
  (SB_do (XE_1 (pB := pU)  (L_iload_n (x := day_) 4 X dX6_propose_11 rfl rfl) (fun v0 st mm a b hd hc hs h => g_callS (st := st) X hT htr (M_X6_needDay v0) lk_X6_needDay st_X6_needDay ml_X6_55 rfl (by rw [hR]; exact ⟨Nat.le_of_ble_eq_true rfl, Nat.le_of_ble_eq_true rfl⟩) (Nat.le_trans hd (by decide)) ⟨hc, hs⟩ dX6_propose_12 h))
  (SB_do (XE_1 (pB := pU)  (L_iload (x := local_) 5 X dX6_propose_15 rfl) (fun v0 st mm a b hd hc hs h => g_callS (st := st) X hT htr (M_X6_needDateHour v0) lk_X6_needDateHour st_X6_needDateHour ml_X6_134 rfl (by rw [hR]; exact ⟨Nat.le_of_ble_eq_true rfl, Nat.le_of_ble_eq_true rfl⟩) (Nat.le_trans hd (by decide)) ⟨hc, hs⟩ dX6_propose_17 h))
  (SB_let (XE_2 (pB := pR) wI (L_iload_n (x := person_) 2 X dX6_propose_20 rfl rfl) (L_aload (r := proposed_4) 0 X dX6_propose_21 rfl) (fun v0 v1 st mm a b hd hc hs h => g_callS (st := st) X hT htr (M_X6_copyThere v0 v1) lk_X6_copyThere st_X6_copyThere ml_X6_213 rfl (by rw [hR]; exact ⟨Nat.le_of_ble_eq_true rfl, Nat.le_of_ble_eq_true rfl⟩) (Nat.le_trans hd (by decide)) ⟨hc, hs⟩ dX6_propose_23 h)) (S_astore (ev := fun copy_9 => [(6, va_rf copy_9), (5, va_rf proposed_4), (0, va_rf (some this)), (1, .int person_), (2, .int meeting_), (3, .int day_), (4, .int local_)]) X dX6_propose_26 (by rw [hN]; decide) (fun _ => (by cases proposed_4 <;> rfl))) fun copy_9 =>
  (SB_do (XE_1 (pB := pU)  (XE_2 (pB := pI) wR (L_aload (r := copy_9) 0 X dX6_propose_28 rfl) (L_iload_n (x := day_) 5 X dX6_propose_30 rfl rfl) (fun v0 v1 st mm a b hd hc hs h => g_callVo (st := st) (cI := 5) X hT htr rfl (fun q => M_X4_isDate q v1) lk_X4_isDate im_X4_isDate se_X4_isDate ml_X6_123 rfl (by rw [hR]; exact ⟨Nat.le_of_ble_eq_true rfl, Nat.le_of_ble_eq_true rfl⟩) (Nat.le_trans hd (by decide)) ⟨hc, hs⟩ dX6_propose_31 h)) (fun v0 st mm a b hd hc hs h => g_callS (st := st) X hT htr (M_X6_needState v0) lk_X6_needState st_X6_needState ml_X6_81 rfl (by rw [hR]; exact ⟨Nat.le_of_ble_eq_true rfl, Nat.le_of_ble_eq_true rfl⟩) (Nat.le_trans hd (by decide)) ⟨hc, hs⟩ dX6_propose_34 h))
  (SB_do (XE_2 (pB := pU) wR (L_aload_n (r := (some this)) 2 X dX6_propose_37 rfl rfl) (L_iconst (v := 1) X dX6_propose_38 (by decide)) (fun v0 v1 st mm a b hd hc hs h => g_callVo (st := st) (cI := 7) X hT htr rfl (fun q => M_X6_needRoom q v1) lk_X6_needRoom im_X6_needRoom se_X6_needRoom ml_X6_179 rfl (by rw [hR]; exact ⟨Nat.le_of_ble_eq_true rfl, Nat.le_of_ble_eq_true rfl⟩) (Nat.le_trans hd (by decide)) ⟨hc, hs⟩ dX6_propose_39 h))
  (SB_let (XE_new (c := 2) (ks0 := 12) (kc0 := 1) (fun st mm a b hc hs h => g_new (c := 2) tyX1 X rfl inW1 tyX1_ok cl_X6_27 in_1 ii_1 (by decide +kernel) hc hs dX6_propose_42 h) (S_dup X dX6_propose_45) (OP_args5 wI wR wI wI (L_iconst (v := 2) X dX6_propose_46 (by decide)) (L_aload (r := proposed_4) 1 X dX6_propose_47 rfl) (L_iload_n (x := person_) 3 X dX6_propose_49 rfl rfl) (XE_1 (L_aload (r := proposed_4) 1 X dX6_propose_50 rfl) (O_gi (c := 1) (j := 1) X rfl inW0 (by decide) fl_X6_141 rfl dX6_propose_52)) (L_aload (r := copy_9) 0 X dX6_propose_55 rfl) (fun r v0 v1 v2 v3 v4 st mm a b hd hc hs h => g_callIo (st := st) (cI := 2) X hT htr (fun q => M_X1_init q v0 v1 v2 v3 v4) lk_X1_init im_X1_init rfl ml_X6_217 rfl (by rw [hR]; exact ⟨Nat.le_of_ble_eq_true rfl, Nat.le_of_ble_eq_true rfl⟩) (Nat.le_trans hd (by decide)) ⟨hc, hs⟩ dX6_propose_57 h)) rfl) (S_astore (ev := fun proposal_23 => [(7, va_rf proposal_23), (6, va_rf copy_9), (5, va_rf proposed_4), (0, va_rf (some this)), (1, .int person_), (2, .int meeting_), (3, .int day_), (4, .int local_)]) X dX6_propose_60 (by rw [hN]; decide) (fun _ => (by cases copy_9 <;> rfl))) fun proposal_23 =>
  (SB_do (XE_2 wR (L_aload (r := proposal_23) 0 X dX6_propose_62 rfl) (L_iload_n (x := day_) 6 X dX6_propose_64 rfl rfl) (O_si (c := 2) (j := 5) tyX1 X rfl inW1 tyX1_ok nmX1 (by decide) fl_X6_201 (Or.inl rfl) rfl (by decide +kernel) dX6_propose_65))
  (SB_do (XE_2 wR (L_aload (r := proposal_23) 0 X dX6_propose_68 rfl) (L_iload (x := local_) 7 X dX6_propose_70 rfl) (O_si (c := 2) (j := 6) tyX1 X rfl inW1 tyX1_ok nmX1 (by decide) fl_X6_204 (Or.inl rfl) rfl (by decide +kernel) dX6_propose_72))
  (SB_retI X C hr dX6_propose_81 (XE_2 (pB := pI) wR (L_aload_n (r := (some this)) 3 X dX6_propose_75 rfl rfl) (L_aload (r := proposal_23) 0 X dX6_propose_76 rfl) (fun v0 v1 st mm a b hd hc hs h => g_callVo (st := st) (cI := 7) X hT htr rfl (fun q => M_X6_putMessage q v1) lk_X6_putMessage im_X6_putMessage se_X6_putMessage ml_X6_230 rfl (by rw [hR]; exact ⟨Nat.le_of_ble_eq_true rfl, Nat.le_of_ble_eq_true rfl⟩) (Nat.le_trans hd (by decide)) ⟨hc, hs⟩ dX6_propose_78 h))))))))))))) h (by rw [hR]; decide) (by rw [hR]; decide)
theorem dX6_takeCopy_0 : decode cX6_takeCopy 0 = .ok (.aload_n 1, 1) := by decide +kernel
theorem dX6_takeCopy_1 : decode cX6_takeCopy 1 = .ok (.getfield 197, 3) := by decide +kernel
theorem dX6_takeCopy_4 : decode cX6_takeCopy 4 = .ok (.astore_n 2, 1) := by decide +kernel
theorem dX6_takeCopy_5 : decode cX6_takeCopy 5 = .ok (.aload_n 2, 1) := by decide +kernel
theorem dX6_takeCopy_6 : decode cX6_takeCopy 6 = .ok (.aload_n 1, 1) := by decide +kernel
theorem dX6_takeCopy_7 : decode cX6_takeCopy 7 = .ok (.getfield 248, 3) := by decide +kernel
theorem dX6_takeCopy_10 : decode cX6_takeCopy 10 = .ok (.invokevirtual 272, 3) := by decide +kernel
theorem dX6_takeCopy_13 : decode cX6_takeCopy 13 = .ok (.astore_n 3, 1) := by decide +kernel
theorem dX6_takeCopy_14 : decode cX6_takeCopy 14 = .ok (.aload_n 3, 1) := by decide +kernel
theorem dX6_takeCopy_15 : decode cX6_takeCopy 15 = .ok (.ifnull 19, 3) := by decide +kernel
theorem dX6_takeCopy_18 : decode cX6_takeCopy 18 = .ok (.aload_n 3, 1) := by decide +kernel
theorem dX6_takeCopy_19 : decode cX6_takeCopy 19 = .ok (.getfield 275, 3) := by decide +kernel
theorem dX6_takeCopy_22 : decode cX6_takeCopy 22 = .ok (.aload_n 1, 1) := by decide +kernel
theorem dX6_takeCopy_23 : decode cX6_takeCopy 23 = .ok (.getfield 381, 3) := by decide +kernel
theorem dX6_takeCopy_26 : decode cX6_takeCopy 26 = .ok (.getfield 275, 3) := by decide +kernel
theorem dX6_takeCopy_29 : decode cX6_takeCopy 29 = .ok (.if_icmp .lt 5, 3) := by decide +kernel
theorem dX6_takeCopy_32 : decode cX6_takeCopy 32 = .ok (.iconst 0, 1) := by decide +kernel
theorem dX6_takeCopy_33 : decode cX6_takeCopy 33 = .ok (.ireturn, 1) := by decide +kernel
theorem dX6_takeCopy_34 : decode cX6_takeCopy 34 = .ok (.aload_n 2, 1) := by decide +kernel
theorem dX6_takeCopy_35 : decode cX6_takeCopy 35 = .ok (.getfield 384, 3) := by decide +kernel
theorem dX6_takeCopy_38 : decode cX6_takeCopy 38 = .ok (.aload_n 1, 1) := by decide +kernel
theorem dX6_takeCopy_39 : decode cX6_takeCopy 39 = .ok (.getfield 248, 3) := by decide +kernel
theorem dX6_takeCopy_42 : decode cX6_takeCopy 42 = .ok (.aload_n 1, 1) := by decide +kernel
theorem dX6_takeCopy_43 : decode cX6_takeCopy 43 = .ok (.getfield 381, 3) := by decide +kernel
theorem dX6_takeCopy_46 : decode cX6_takeCopy 46 = .ok (.aastore, 1) := by decide +kernel
theorem dX6_takeCopy_47 : decode cX6_takeCopy 47 = .ok (.aload_n 0, 1) := by decide +kernel
theorem dX6_takeCopy_48 : decode cX6_takeCopy 48 = .ok (.aload_n 1, 1) := by decide +kernel
theorem dX6_takeCopy_49 : decode cX6_takeCopy 49 = .ok (.getfield 248, 3) := by decide +kernel
theorem dX6_takeCopy_52 : decode cX6_takeCopy 52 = .ok (.aload_n 2, 1) := by decide +kernel
theorem dX6_takeCopy_53 : decode cX6_takeCopy 53 = .ok (.invokevirtual 96, 3) := by decide +kernel
theorem dX6_takeCopy_56 : decode cX6_takeCopy 56 = .ok (.iconst 1, 1) := by decide +kernel
theorem dX6_takeCopy_57 : decode cX6_takeCopy 57 = .ok (.ireturn, 1) := by decide +kernel
theorem lk_X6_takeCopy : LK yX6_takeCopy cX6_takeCopy 4 (some .boolean) 1 := ⟨qW_at 626 (by decide +kernel) rfl, qW_at 29 (by decide +kernel) rfl, by decide, by decide, by decide +kernel⟩
theorem im_X6_takeCopy : Cond.instanceMethod yX6_takeCopy ∈ qW := qW_at 625 (by decide +kernel) rfl
theorem se_X6_takeCopy : Cond.selects RX6 yX6_takeCopy yX6_takeCopy ∈ qW := qW_at 16 (by decide +kernel) rfl
def F_X6_takeCopy (this : Nat) (request_ : Option Nat) : QX Int32 :=
  (xb (xb (xp request_) fun v1 => xgr 2 1 v1) fun meeting_2 =>
  (xb (xb (xp meeting_2) fun v4 => xb (xb (xp request_) fun v3 => xgi 2 3 v3) fun v5 => xo 1 v4 fun q => F_X0_versionOf q v5) fun copy_6 =>
  (xb (xb (xb (xp copy_6) fun v7 => xp (decide (¬ v7 = none))) fun v13 => if v13 then (xb (xb (xp copy_6) fun v8 => xgi 5 0 v8) fun v9 => xb (xb (xb (xp request_) fun v10 => xgr 2 4 v10) fun v11 => xgi 5 0 v11) fun v12 => xp (decide (v12 ≤ v9))) else xp false) fun v24 => if v24 then (xb (xp (0 : Int32)) xz) else
  (xb (xb (xb (xp meeting_2) fun v14 => xgr 1 3 v14) fun v17 => xb (xb (xp request_) fun v15 => xgi 2 3 v15) fun v18 => xb (xb (xp request_) fun v16 => xgr 2 4 v16) fun v19 => xsar 5 v17 v18 v19) fun _ =>
  (xb (xb (xp (some this)) fun v21 => xb (xb (xp request_) fun v20 => xgi 2 3 v20) fun v22 => xb (xp meeting_2) fun v23 => xo 7 v21 fun q => F_X6_markEntry q v22 v23) fun _ =>
  (xb (xp (1 : Int32)) xz))))))
set_option maxRecDepth 100000 in
set_option maxHeartbeats 4000000 in
theorem M_X6_takeCopy (this : Nat) (request_ : Option Nat) : MM yX6_takeCopy cX6_takeCopy 4 (some .boolean) 3 70 0 0 encI [.ref this, va_rf request_] (F_X6_takeCopy this request_) := by
  refine MM_of (env0 := [(0, va_rf (some this)), (1, va_rf request_)]) (by decide) (by cases request_ <;> exact Nat.le_of_ble_eq_true rfl) (by cases request_ <;> rfl) (fun k mm res X C hR hN hr hname h => ?_)
  have X : CX k cX6_takeCopy RX6 := X
  have hT : TH k (fun e m' => res = (.error e, m')) := TH_of C
  have htr := C.2.2.2.1
  unfold F_X6_takeCopy at h
  exact SB_go (T := fun e m' => res = (.error e, m')) (RET := fun v m' => res = (.ok v, m')) (SB_let (XE_1 (L_aload_n (r := request_) 1 X dX6_takeCopy_0 rfl rfl) (O_gr (c := 2) (j := 1) X rfl inW1 (by decide) fl_X6_197 rfl dX6_takeCopy_1)) (S_astore_n (ev := fun meeting_2 => [(2, va_rf meeting_2), (0, va_rf (some this)), (1, va_rf request_)]) X dX6_takeCopy_4 rfl (by rw [hN]; decide) (fun _ => (by cases request_ <;> rfl))) fun meeting_2 =>
  (SB_let (XE_2 (pB := pR) wR (L_aload_n (r := meeting_2) 0 X dX6_takeCopy_5 rfl rfl) (XE_1 (L_aload_n (r := request_) 2 X dX6_takeCopy_6 rfl rfl) (O_gi (c := 2) (j := 3) X rfl inW1 (by decide) fl_X6_248 rfl dX6_takeCopy_7)) (fun v0 v1 st mm a b hd hc hs h => g_callVo (st := st) (cI := 1) X hT htr rfl (fun q => M_X0_versionOf q v1) lk_X0_versionOf im_X0_versionOf se_X0_versionOf ml_X6_272 rfl (by rw [hR]; exact ⟨Nat.le_of_ble_eq_true rfl, Nat.le_of_ble_eq_true rfl⟩) (Nat.le_trans hd (by decide)) ⟨hc, hs⟩ dX6_takeCopy_10 h)) (S_astore_n (ev := fun copy_6 => [(3, va_rf copy_6), (2, va_rf meeting_2), (0, va_rf (some this)), (1, va_rf request_)]) X dX6_takeCopy_13 rfl (by rw [hN]; decide) (fun _ => (by cases meeting_2 <;> rfl))) fun copy_6 =>
  (SB_if (CE_and (CE_1 (L_aload_n (r := copy_6) 0 X dX6_takeCopy_14 rfl rfl) (N_ne_F X dX6_takeCopy_15 (by decide))) (CE_2 wI (XE_1 (L_aload_n (r := copy_6) 0 X dX6_takeCopy_18 rfl rfl) (O_gi (c := 5) (j := 0) X rfl inW4 (by decide) fl_X6_275 rfl dX6_takeCopy_19)) (XE_1 (XE_1 (L_aload_n (r := request_) 3 X dX6_takeCopy_22 rfl rfl) (O_gr (c := 2) (j := 4) X rfl inW1 (by decide) fl_X6_381 rfl dX6_takeCopy_23)) (O_gi (c := 5) (j := 0) X rfl inW4 (by decide) fl_X6_275 rfl dX6_takeCopy_26)) (C_ge_F X dX6_takeCopy_29 (by decide))))
  (SB_retZ X C hr dX6_takeCopy_33 (L_iconst (v := 0) X dX6_takeCopy_32 (by decide)))
  (SB_do (XE_3 wR wI (XE_1 (L_aload_n (r := meeting_2) 1 X dX6_takeCopy_34 rfl rfl) (O_gr (c := 1) (j := 3) X rfl inW0 (by decide) fl_X6_384 rfl dX6_takeCopy_35)) (XE_1 (L_aload_n (r := request_) 3 X dX6_takeCopy_38 rfl rfl) (O_gi (c := 2) (j := 3) X rfl inW1 (by decide) fl_X6_248 rfl dX6_takeCopy_39)) (XE_1 (L_aload_n (r := request_) 3 X dX6_takeCopy_42 rfl rfl) (O_gr (c := 2) (j := 4) X rfl inW1 (by decide) fl_X6_381 rfl dX6_takeCopy_43)) (O_sar (c := 5) X rfl (by decide) rfl dX6_takeCopy_46))
  (SB_do (XE_3 (pB := pU) wR wI (L_aload_n (r := (some this)) 2 X dX6_takeCopy_47 rfl rfl) (XE_1 (L_aload_n (r := request_) 3 X dX6_takeCopy_48 rfl rfl) (O_gi (c := 2) (j := 3) X rfl inW1 (by decide) fl_X6_248 rfl dX6_takeCopy_49)) (L_aload_n (r := meeting_2) 1 X dX6_takeCopy_52 rfl rfl) (fun v0 v1 v2 st mm a b hd hc hs h => g_callVo (st := st) (cI := 7) X hT htr rfl (fun q => M_X6_markEntry q v1 v2) lk_X6_markEntry im_X6_markEntry se_X6_markEntry ml_X6_96 rfl (by rw [hR]; exact ⟨Nat.le_of_ble_eq_true rfl, Nat.le_of_ble_eq_true rfl⟩) (Nat.le_trans hd (by decide)) ⟨hc, hs⟩ dX6_takeCopy_53 h))
  (SB_retZ X C hr dX6_takeCopy_57 (L_iconst (v := 1) X dX6_takeCopy_56 (by decide)))))))) h (by rw [hR]; decide) (by rw [hR]; decide)
theorem dX6_keepReply_0 : decode cX6_keepReply 0 = .ok (.aload_n 1, 1) := by decide +kernel
theorem dX6_keepReply_1 : decode cX6_keepReply 1 = .ok (.getfield 197, 3) := by decide +kernel
theorem dX6_keepReply_4 : decode cX6_keepReply 4 = .ok (.getfield 388, 3) := by decide +kernel
theorem dX6_keepReply_7 : decode cX6_keepReply 7 = .ok (.aload_n 1, 1) := by decide +kernel
theorem dX6_keepReply_8 : decode cX6_keepReply 8 = .ok (.invokevirtual 373, 3) := by decide +kernel
theorem dX6_keepReply_11 : decode cX6_keepReply 11 = .ok (.istore_n 2, 1) := by decide +kernel
theorem dX6_keepReply_12 : decode cX6_keepReply 12 = .ok (.iload_n 2, 1) := by decide +kernel
theorem dX6_keepReply_13 : decode cX6_keepReply 13 = .ok (.ifCond .eq 15, 3) := by decide +kernel
theorem dX6_keepReply_16 : decode cX6_keepReply 16 = .ok (.aload_n 0, 1) := by decide +kernel
theorem dX6_keepReply_17 : decode cX6_keepReply 17 = .ok (.aload_n 1, 1) := by decide +kernel
theorem dX6_keepReply_18 : decode cX6_keepReply 18 = .ok (.getfield 248, 3) := by decide +kernel
theorem dX6_keepReply_21 : decode cX6_keepReply 21 = .ok (.aload_n 1, 1) := by decide +kernel
theorem dX6_keepReply_22 : decode cX6_keepReply 22 = .ok (.getfield 197, 3) := by decide +kernel
theorem dX6_keepReply_25 : decode cX6_keepReply 25 = .ok (.invokevirtual 96, 3) := by decide +kernel
theorem dX6_keepReply_28 : decode cX6_keepReply 28 = .ok (.iload_n 2, 1) := by decide +kernel
theorem dX6_keepReply_29 : decode cX6_keepReply 29 = .ok (.ireturn, 1) := by decide +kernel
theorem lk_X6_keepReply : LK yX6_keepReply cX6_keepReply 3 (some .boolean) 1 := ⟨qW_at 638 (by decide +kernel) rfl, qW_at 29 (by decide +kernel) rfl, by decide, by decide, by decide +kernel⟩
theorem im_X6_keepReply : Cond.instanceMethod yX6_keepReply ∈ qW := qW_at 637 (by decide +kernel) rfl
theorem se_X6_keepReply : Cond.selects RX6 yX6_keepReply yX6_keepReply ∈ qW := qW_at 18 (by decide +kernel) rfl
def F_X6_keepReply (this : Nat) (reply_ : Option Nat) : QX Int32 :=
  (xb (xb (xb (xb (xp reply_) fun v1 => xgr 2 1 v1) fun v2 => xgr 1 5 v2) fun v3 => xb (xp reply_) fun v4 => xo 4 v3 fun q => F_X3_keep q v4) fun isKept_5 =>
  (xb (xb (xb (xp isKept_5) fun v6 => xp (decide (¬ v6 = 0))) fun v12 => if v12 then (xb (xb (xp (some this)) fun v9 => xb (xb (xp reply_) fun v7 => xgi 2 3 v7) fun v10 => xb (xb (xp reply_) fun v8 => xgr 2 1 v8) fun v11 => xo 7 v9 fun q => F_X6_markEntry q v10 v11) fun _ =>
  (xp ())) else (xp ())) fun s13 =>
  (xb (xp isKept_5) xz)))
set_option maxRecDepth 100000 in
set_option maxHeartbeats 4000000 in
theorem M_X6_keepReply (this : Nat) (reply_ : Option Nat) : MM yX6_keepReply cX6_keepReply 3 (some .boolean) 3 70 0 0 encI [.ref this, va_rf reply_] (F_X6_keepReply this reply_) := by
  refine MM_of (env0 := [(0, va_rf (some this)), (1, va_rf reply_)]) (by decide) (by cases reply_ <;> exact Nat.le_of_ble_eq_true rfl) (by cases reply_ <;> rfl) (fun k mm res X C hR hN hr hname h => ?_)
  have X : CX k cX6_keepReply RX6 := X
  have hT : TH k (fun e m' => res = (.error e, m')) := TH_of C
  have htr := C.2.2.2.1
  unfold F_X6_keepReply at h
  exact SB_go (T := fun e m' => res = (.error e, m')) (RET := fun v m' => res = (.ok v, m')) (SB_let (XE_2 (pB := pI) wR (XE_1 (XE_1 (L_aload_n (r := reply_) 1 X dX6_keepReply_0 rfl rfl) (O_gr (c := 2) (j := 1) X rfl inW1 (by decide) fl_X6_197 rfl dX6_keepReply_1)) (O_gr (c := 1) (j := 5) X rfl inW0 (by decide) fl_X6_388 rfl dX6_keepReply_4)) (L_aload_n (r := reply_) 1 X dX6_keepReply_7 rfl rfl) (fun v0 v1 st mm a b hd hc hs h => g_callVo (st := st) (cI := 4) X hT htr rfl (fun q => M_X3_keep q v1) lk_X3_keep im_X3_keep se_X3_keep ml_X6_373 rfl (by rw [hR]; exact ⟨Nat.le_of_ble_eq_true rfl, Nat.le_of_ble_eq_true rfl⟩) (Nat.le_trans hd (by decide)) ⟨hc, hs⟩ dX6_keepReply_8 h)) (S_istore_n (ev := fun isKept_5 => [(2, .int isKept_5), (0, va_rf (some this)), (1, va_rf reply_)]) X dX6_keepReply_11 rfl (by rw [hN]; decide) (fun _ => (by cases reply_ <;> rfl))) fun isKept_5 =>
  (SB_seq (ST_if (CE_1 (L_iload_n (x := isKept_5) 0 X dX6_keepReply_12 rfl rfl) (Z_ne_F X dX6_keepReply_13 (by decide)))
  (ST_do (XE_3 (pB := pU) wR wI (L_aload_n (r := (some this)) 1 X dX6_keepReply_16 rfl rfl) (XE_1 (L_aload_n (r := reply_) 2 X dX6_keepReply_17 rfl rfl) (O_gi (c := 2) (j := 3) X rfl inW1 (by decide) fl_X6_248 rfl dX6_keepReply_18)) (XE_1 (L_aload_n (r := reply_) 2 X dX6_keepReply_21 rfl rfl) (O_gr (c := 2) (j := 1) X rfl inW1 (by decide) fl_X6_197 rfl dX6_keepReply_22)) (fun v0 v1 v2 st mm a b hd hc hs h => g_callVo (st := st) (cI := 7) X hT htr rfl (fun q => M_X6_markEntry q v1 v2) lk_X6_markEntry im_X6_markEntry se_X6_markEntry ml_X6_96 rfl (by rw [hR]; exact ⟨Nat.le_of_ble_eq_true rfl, Nat.le_of_ble_eq_true rfl⟩) (Nat.le_trans hd (by decide)) ⟨hc, hs⟩ dX6_keepReply_25 h))
  (ST_done (upd := (fun (s : Unit) => [(2, .int isKept_5), (0, va_rf (some this)), (1, va_rf reply_)])) (s := ()) [0, 1, 2] rfl))
  (ST_done (upd := (fun (s : Unit) => [(2, .int isKept_5), (0, va_rf (some this)), (1, va_rf reply_)])) (s := ()) [0, 1, 2] rfl)) fun s13 =>
  (SB_retZ X C hr dX6_keepReply_29 (L_iload_n (x := isKept_5) 0 X dX6_keepReply_28 rfl rfl)))) h (by rw [hR]; decide) (by rw [hR]; decide)
theorem dX6_deliver_0 : decode cX6_deliver 0 = .ok (.aload_n 0, 1) := by decide +kernel
theorem dX6_deliver_1 : decode cX6_deliver 1 = .ok (.iload_n 1, 1) := by decide +kernel
theorem dX6_deliver_2 : decode cX6_deliver 2 = .ok (.invokevirtual 186, 3) := by decide +kernel
theorem dX6_deliver_5 : decode cX6_deliver 5 = .ok (.astore_n 2, 1) := by decide +kernel
theorem dX6_deliver_6 : decode cX6_deliver 6 = .ok (.aload_n 2, 1) := by decide +kernel
theorem dX6_deliver_7 : decode cX6_deliver 7 = .ok (.getfield 233, 3) := by decide +kernel
theorem dX6_deliver_10 : decode cX6_deliver 10 = .ok (.ifCond .ne 7, 3) := by decide +kernel
theorem dX6_deliver_13 : decode cX6_deliver 13 = .ok (.iconst 1, 1) := by decide +kernel
theorem dX6_deliver_14 : decode cX6_deliver 14 = .ok (.goto 4, 3) := by decide +kernel
theorem dX6_deliver_17 : decode cX6_deliver 17 = .ok (.iconst 0, 1) := by decide +kernel
theorem dX6_deliver_18 : decode cX6_deliver 18 = .ok (.istore_n 3, 1) := by decide +kernel
theorem dX6_deliver_19 : decode cX6_deliver 19 = .ok (.aload_n 2, 1) := by decide +kernel
theorem dX6_deliver_20 : decode cX6_deliver 20 = .ok (.iconst 1, 1) := by decide +kernel
theorem dX6_deliver_21 : decode cX6_deliver 21 = .ok (.putfield 233, 3) := by decide +kernel
theorem dX6_deliver_24 : decode cX6_deliver 24 = .ok (.aload_n 2, 1) := by decide +kernel
theorem dX6_deliver_25 : decode cX6_deliver 25 = .ok (.getfield 236, 3) := by decide +kernel
theorem dX6_deliver_28 : decode cX6_deliver 28 = .ok (.lookupswitch 40 #[(0, 28), (1, 34)], 28) := by decide +kernel
theorem dX6_deliver_56 : decode cX6_deliver 56 = .ok (.aload_n 0, 1) := by decide +kernel
theorem dX6_deliver_57 : decode cX6_deliver 57 = .ok (.aload_n 2, 1) := by decide +kernel
theorem dX6_deliver_58 : decode cX6_deliver 58 = .ok (.invokevirtual 239, 3) := by decide +kernel
theorem dX6_deliver_61 : decode cX6_deliver 61 = .ok (.ireturn, 1) := by decide +kernel
theorem dX6_deliver_62 : decode cX6_deliver 62 = .ok (.aload_n 0, 1) := by decide +kernel
theorem dX6_deliver_63 : decode cX6_deliver 63 = .ok (.aload_n 2, 1) := by decide +kernel
theorem dX6_deliver_64 : decode cX6_deliver 64 = .ok (.invokevirtual 242, 3) := by decide +kernel
theorem dX6_deliver_67 : decode cX6_deliver 67 = .ok (.ireturn, 1) := by decide +kernel
theorem dX6_deliver_68 : decode cX6_deliver 68 = .ok (.iload_n 3, 1) := by decide +kernel
theorem dX6_deliver_69 : decode cX6_deliver 69 = .ok (.ireturn, 1) := by decide +kernel
theorem lk_X6_deliver : LK yX6_deliver cX6_deliver 4 (some .boolean) 1 := ⟨qW_at 622 (by decide +kernel) rfl, qW_at 29 (by decide +kernel) rfl, by decide, by decide, by decide +kernel⟩
theorem im_X6_deliver : Cond.instanceMethod yX6_deliver ∈ qW := qW_at 620 (by decide +kernel) rfl
theorem se_X6_deliver : Cond.selects RX6 yX6_deliver yX6_deliver ∈ qW := qW_at 621 (by decide +kernel) rfl
def F_X6_deliver (this : Nat) (message_ : Int32) : QX Int32 :=
  (xb (xb (xp (some this)) fun v1 => xb (xp message_) fun v2 => xo 7 v1 fun q => F_X6_messageNumbered q v2) fun delivered_3 =>
  (xb (xb (xb (xb (xb (xp delivered_3) fun v4 => xgi 2 10 v4) fun v5 => xp (decide (¬ v5 = 0))) fun v6 => xp (!v6)) fun v7 => xp (b2i v7)) fun isFirst_8 =>
  (xb (xb (xp delivered_3) fun v9 => xb (xp (1 : Int32)) fun v10 => xsz 2 10 v9 v10) fun _ =>
  (xb (xb (xp delivered_3) fun v11 => xgi 2 0 v11) fun v16 => if decide (v16 = 0) then (xb (xb (xp (some this)) fun v12 => xb (xp delivered_3) fun v13 => xo 7 v12 fun q => F_X6_takeCopy q v13) xz) else if decide (v16 = 1) then (xb (xb (xp (some this)) fun v14 => xb (xp delivered_3) fun v15 => xo 7 v14 fun q => F_X6_keepReply q v15) xz) else (xb (xp isFirst_8) xz)))))
set_option maxRecDepth 100000 in
set_option maxHeartbeats 4000000 in
theorem M_X6_deliver (this : Nat) (message_ : Int32) : MM yX6_deliver cX6_deliver 4 (some .boolean) 7 102 1 6 encI [.ref this, .int message_] (F_X6_deliver this message_) := by
  refine MM_of (env0 := [(0, va_rf (some this)), (1, .int message_)]) (by decide) (by exact Nat.le_of_ble_eq_true rfl) (by rfl) (fun k mm res X C hR hN hr hname h => ?_)
  have X : CX k cX6_deliver RX6 := X
  have hT : TH k (fun e m' => res = (.error e, m')) := TH_of C
  have htr := C.2.2.2.1
  unfold F_X6_deliver at h
  exact SB_go (T := fun e m' => res = (.error e, m')) (RET := fun v m' => res = (.ok v, m')) (SB_let (XE_2 (pB := pR) wR (L_aload_n (r := (some this)) 0 X dX6_deliver_0 rfl rfl) (L_iload_n (x := message_) 1 X dX6_deliver_1 rfl rfl) (fun v0 v1 st mm a b hd hc hs h => g_callVo (st := st) (cI := 7) X hT htr rfl (fun q => M_X6_messageNumbered q v1) lk_X6_messageNumbered im_X6_messageNumbered se_X6_messageNumbered ml_X6_186 rfl (by rw [hR]; exact ⟨Nat.le_of_ble_eq_true rfl, Nat.le_of_ble_eq_true rfl⟩) (Nat.le_trans hd (by decide)) ⟨hc, hs⟩ dX6_deliver_2 h)) (S_astore_n (ev := fun delivered_3 => [(2, va_rf delivered_3), (0, va_rf (some this)), (1, .int message_)]) X dX6_deliver_5 rfl (by rw [hN]; decide) (fun _ => rfl)) fun delivered_3 =>
  (SB_let (XE_b2i (CE_not (CE_1 (XE_1 (L_aload_n (r := delivered_3) 0 X dX6_deliver_6 rfl rfl) (O_gi (c := 2) (j := 10) X rfl inW1 (by decide) fl_X6_233 rfl dX6_deliver_7)) (Z_ne_T X dX6_deliver_10 (by decide)))) (S_b1 X dX6_deliver_13 dX6_deliver_14 (by decide)) (S_b0 X dX6_deliver_17)) (S_istore_n (ev := fun isFirst_8 => [(3, .int isFirst_8), (2, va_rf delivered_3), (0, va_rf (some this)), (1, .int message_)]) X dX6_deliver_18 rfl (by rw [hN]; decide) (fun _ => (by cases delivered_3 <;> rfl))) fun isFirst_8 =>
  (SB_do (XE_2 wR (L_aload_n (r := delivered_3) 1 X dX6_deliver_19 rfl rfl) (L_iconst (v := 1) X dX6_deliver_20 (by decide)) (O_sz (c := 2) (j := 10) tyX1 X rfl inW1 tyX1_ok nmX1 (by decide) fl_X6_233 (Or.inl rfl) rfl (by decide +kernel) dX6_deliver_21))
  (SB_sw2 (a0 := 0) (a1 := 1) (XE_1 (L_aload_n (r := delivered_3) 1 X dX6_deliver_24 rfl rfl) (O_gi (c := 2) (j := 0) X rfl inW1 (by decide) fl_X6_236 rfl dX6_deliver_25)) (W2_lookup X dX6_deliver_28 (by decide) (by decide) (by decide))
  (SB_retZ X C hr dX6_deliver_61 (XE_2 (pB := pI) wR (L_aload_n (r := (some this)) 2 X dX6_deliver_56 rfl rfl) (L_aload_n (r := delivered_3) 1 X dX6_deliver_57 rfl rfl) (fun v0 v1 st mm a b hd hc hs h => g_callVo (st := st) (cI := 7) X hT htr rfl (fun q => M_X6_takeCopy q v1) lk_X6_takeCopy im_X6_takeCopy se_X6_takeCopy ml_X6_239 rfl (by rw [hR]; exact ⟨Nat.le_of_ble_eq_true rfl, Nat.le_of_ble_eq_true rfl⟩) (Nat.le_trans hd (by decide)) ⟨hc, hs⟩ dX6_deliver_58 h)))
  (SB_retZ X C hr dX6_deliver_67 (XE_2 (pB := pI) wR (L_aload_n (r := (some this)) 2 X dX6_deliver_62 rfl rfl) (L_aload_n (r := delivered_3) 1 X dX6_deliver_63 rfl rfl) (fun v0 v1 st mm a b hd hc hs h => g_callVo (st := st) (cI := 7) X hT htr rfl (fun q => M_X6_keepReply q v1) lk_X6_keepReply im_X6_keepReply se_X6_keepReply ml_X6_242 rfl (by rw [hR]; exact ⟨Nat.le_of_ble_eq_true rfl, Nat.le_of_ble_eq_true rfl⟩) (Nat.le_trans hd (by decide)) ⟨hc, hs⟩ dX6_deliver_64 h)))
  (SB_retZ X C hr dX6_deliver_69 (L_iload_n (x := isFirst_8) 0 X dX6_deliver_68 rfl rfl)))))) h (by rw [hR]; decide) (by rw [hR]; decide)
theorem dX6_messages_0 : decode cX6_messages 0 = .ok (.aload_n 0, 1) := by decide +kernel
theorem dX6_messages_1 : decode cX6_messages 1 = .ok (.getfield 245, 3) := by decide +kernel
theorem dX6_messages_4 : decode cX6_messages 4 = .ok (.ireturn, 1) := by decide +kernel
theorem lk_X6_messages : LK yX6_messages cX6_messages 1 (some .int) 0 := ⟨qW_at 140 (by decide +kernel) rfl, qW_at 29 (by decide +kernel) rfl, by decide, by decide, by decide +kernel⟩
theorem im_X6_messages : Cond.instanceMethod yX6_messages ∈ qW := qW_at 138 (by decide +kernel) rfl
theorem se_X6_messages : Cond.selects RX6 yX6_messages yX6_messages ∈ qW := qW_at 139 (by decide +kernel) rfl
def F_X6_messages (this : Nat) : QX Int32 :=
  (xb (xp (some this)) fun v1 => xgi 7 5 v1)
set_option maxRecDepth 100000 in
set_option maxHeartbeats 4000000 in
theorem M_X6_messages (this : Nat) : MM yX6_messages cX6_messages 1 (some .int) 0 0 0 0 encI [.ref this] (F_X6_messages this) := by
  refine MM_of (env0 := [(0, va_rf (some this))]) (by decide) (by exact Nat.le_of_ble_eq_true rfl) (by rfl) (fun k mm res X C hR hN hr hname h => ?_)
  have X : CX k cX6_messages RX6 := X
  have hT : TH k (fun e m' => res = (.error e, m')) := TH_of C
  have htr := C.2.2.2.1
  unfold F_X6_messages at h
  exact SB_go (T := fun e m' => res = (.error e, m')) (RET := fun v m' => res = (.ok v, m')) (SB_retI X C hr dX6_messages_4 (XE_1 (L_aload_n (r := (some this)) 0 X dX6_messages_0 rfl rfl) (O_gi (c := 7) (j := 5) X rfl inW6 (by decide) fl_X6_245 rfl dX6_messages_1))) h (by rw [hR]; decide) (by rw [hR]; decide)
theorem dX6_kindOf_0 : decode cX6_kindOf 0 = .ok (.aload_n 0, 1) := by decide +kernel
theorem dX6_kindOf_1 : decode cX6_kindOf 1 = .ok (.iload_n 1, 1) := by decide +kernel
theorem dX6_kindOf_2 : decode cX6_kindOf 2 = .ok (.invokevirtual 186, 3) := by decide +kernel
theorem dX6_kindOf_5 : decode cX6_kindOf 5 = .ok (.getfield 236, 3) := by decide +kernel
theorem dX6_kindOf_8 : decode cX6_kindOf 8 = .ok (.ireturn, 1) := by decide +kernel
theorem lk_X6_kindOf : LK yX6_kindOf cX6_kindOf 2 (some .int) 1 := ⟨qW_at 565 (by decide +kernel) rfl, qW_at 29 (by decide +kernel) rfl, by decide, by decide, by decide +kernel⟩
theorem im_X6_kindOf : Cond.instanceMethod yX6_kindOf ∈ qW := qW_at 563 (by decide +kernel) rfl
theorem se_X6_kindOf : Cond.selects RX6 yX6_kindOf yX6_kindOf ∈ qW := qW_at 564 (by decide +kernel) rfl
def F_X6_kindOf (this : Nat) (message_ : Int32) : QX Int32 :=
  (xb (xb (xp (some this)) fun v1 => xb (xp message_) fun v2 => xo 7 v1 fun q => F_X6_messageNumbered q v2) fun v3 => xgi 2 0 v3)
set_option maxRecDepth 100000 in
set_option maxHeartbeats 4000000 in
theorem M_X6_kindOf (this : Nat) (message_ : Int32) : MM yX6_kindOf cX6_kindOf 2 (some .int) 7 102 1 6 encI [.ref this, .int message_] (F_X6_kindOf this message_) := by
  refine MM_of (env0 := [(0, va_rf (some this)), (1, .int message_)]) (by decide) (by exact Nat.le_of_ble_eq_true rfl) (by rfl) (fun k mm res X C hR hN hr hname h => ?_)
  have X : CX k cX6_kindOf RX6 := X
  have hT : TH k (fun e m' => res = (.error e, m')) := TH_of C
  have htr := C.2.2.2.1
  unfold F_X6_kindOf at h
  exact SB_go (T := fun e m' => res = (.error e, m')) (RET := fun v m' => res = (.ok v, m')) (SB_retI X C hr dX6_kindOf_8 (XE_1 (XE_2 (pB := pR) wR (L_aload_n (r := (some this)) 0 X dX6_kindOf_0 rfl rfl) (L_iload_n (x := message_) 1 X dX6_kindOf_1 rfl rfl) (fun v0 v1 st mm a b hd hc hs h => g_callVo (st := st) (cI := 7) X hT htr rfl (fun q => M_X6_messageNumbered q v1) lk_X6_messageNumbered im_X6_messageNumbered se_X6_messageNumbered ml_X6_186 rfl (by rw [hR]; exact ⟨Nat.le_of_ble_eq_true rfl, Nat.le_of_ble_eq_true rfl⟩) (Nat.le_trans hd (by decide)) ⟨hc, hs⟩ dX6_kindOf_2 h)) (O_gi (c := 2) (j := 0) X rfl inW1 (by decide) fl_X6_236 rfl dX6_kindOf_5))) h (by rw [hR]; decide) (by rw [hR]; decide)
theorem dX6_receiver_0 : decode cX6_receiver 0 = .ok (.aload_n 0, 1) := by decide +kernel
theorem dX6_receiver_1 : decode cX6_receiver 1 = .ok (.iload_n 1, 1) := by decide +kernel
theorem dX6_receiver_2 : decode cX6_receiver 2 = .ok (.invokevirtual 186, 3) := by decide +kernel
theorem dX6_receiver_5 : decode cX6_receiver 5 = .ok (.getfield 248, 3) := by decide +kernel
theorem dX6_receiver_8 : decode cX6_receiver 8 = .ok (.ireturn, 1) := by decide +kernel
theorem lk_X6_receiver : LK yX6_receiver cX6_receiver 2 (some .int) 1 := ⟨qW_at 576 (by decide +kernel) rfl, qW_at 29 (by decide +kernel) rfl, by decide, by decide, by decide +kernel⟩
theorem im_X6_receiver : Cond.instanceMethod yX6_receiver ∈ qW := qW_at 574 (by decide +kernel) rfl
theorem se_X6_receiver : Cond.selects RX6 yX6_receiver yX6_receiver ∈ qW := qW_at 575 (by decide +kernel) rfl
def F_X6_receiver (this : Nat) (message_ : Int32) : QX Int32 :=
  (xb (xb (xp (some this)) fun v1 => xb (xp message_) fun v2 => xo 7 v1 fun q => F_X6_messageNumbered q v2) fun v3 => xgi 2 3 v3)
set_option maxRecDepth 100000 in
set_option maxHeartbeats 4000000 in
theorem M_X6_receiver (this : Nat) (message_ : Int32) : MM yX6_receiver cX6_receiver 2 (some .int) 7 102 1 6 encI [.ref this, .int message_] (F_X6_receiver this message_) := by
  refine MM_of (env0 := [(0, va_rf (some this)), (1, .int message_)]) (by decide) (by exact Nat.le_of_ble_eq_true rfl) (by rfl) (fun k mm res X C hR hN hr hname h => ?_)
  have X : CX k cX6_receiver RX6 := X
  have hT : TH k (fun e m' => res = (.error e, m')) := TH_of C
  have htr := C.2.2.2.1
  unfold F_X6_receiver at h
  exact SB_go (T := fun e m' => res = (.error e, m')) (RET := fun v m' => res = (.ok v, m')) (SB_retI X C hr dX6_receiver_8 (XE_1 (XE_2 (pB := pR) wR (L_aload_n (r := (some this)) 0 X dX6_receiver_0 rfl rfl) (L_iload_n (x := message_) 1 X dX6_receiver_1 rfl rfl) (fun v0 v1 st mm a b hd hc hs h => g_callVo (st := st) (cI := 7) X hT htr rfl (fun q => M_X6_messageNumbered q v1) lk_X6_messageNumbered im_X6_messageNumbered se_X6_messageNumbered ml_X6_186 rfl (by rw [hR]; exact ⟨Nat.le_of_ble_eq_true rfl, Nat.le_of_ble_eq_true rfl⟩) (Nat.le_trans hd (by decide)) ⟨hc, hs⟩ dX6_receiver_2 h)) (O_gi (c := 2) (j := 3) X rfl inW1 (by decide) fl_X6_248 rfl dX6_receiver_5))) h (by rw [hR]; decide) (by rw [hR]; decide)
theorem dX6_meetings_0 : decode cX6_meetings 0 = .ok (.aload_n 0, 1) := by decide +kernel
theorem dX6_meetings_1 : decode cX6_meetings 1 = .ok (.getfield 78, 3) := by decide +kernel
theorem dX6_meetings_4 : decode cX6_meetings 4 = .ok (.ireturn, 1) := by decide +kernel
theorem lk_X6_meetings : LK yX6_meetings cX6_meetings 1 (some .int) 0 := ⟨qW_at 144 (by decide +kernel) rfl, qW_at 29 (by decide +kernel) rfl, by decide, by decide, by decide +kernel⟩
theorem im_X6_meetings : Cond.instanceMethod yX6_meetings ∈ qW := qW_at 142 (by decide +kernel) rfl
theorem se_X6_meetings : Cond.selects RX6 yX6_meetings yX6_meetings ∈ qW := qW_at 143 (by decide +kernel) rfl
def F_X6_meetings (this : Nat) : QX Int32 :=
  (xb (xp (some this)) fun v1 => xgi 7 4 v1)
set_option maxRecDepth 100000 in
set_option maxHeartbeats 4000000 in
theorem M_X6_meetings (this : Nat) : MM yX6_meetings cX6_meetings 1 (some .int) 0 0 0 0 encI [.ref this] (F_X6_meetings this) := by
  refine MM_of (env0 := [(0, va_rf (some this))]) (by decide) (by exact Nat.le_of_ble_eq_true rfl) (by rfl) (fun k mm res X C hR hN hr hname h => ?_)
  have X : CX k cX6_meetings RX6 := X
  have hT : TH k (fun e m' => res = (.error e, m')) := TH_of C
  have htr := C.2.2.2.1
  unfold F_X6_meetings at h
  exact SB_go (T := fun e m' => res = (.error e, m')) (RET := fun v m' => res = (.ok v, m')) (SB_retI X C hr dX6_meetings_4 (XE_1 (L_aload_n (r := (some this)) 0 X dX6_meetings_0 rfl rfl) (O_gi (c := 7) (j := 4) X rfl inW6 (by decide) fl_X6_78 rfl dX6_meetings_1))) h (by rw [hR]; decide) (by rw [hR]; decide)
theorem dX6_isThere_0 : decode cX6_isThere 0 = .ok (.iload_n 1, 1) := by decide +kernel
theorem dX6_isThere_1 : decode cX6_isThere 1 = .ok (.invokestatic 72, 3) := by decide +kernel
theorem dX6_isThere_4 : decode cX6_isThere 4 = .ok (.aload_n 0, 1) := by decide +kernel
theorem dX6_isThere_5 : decode cX6_isThere 5 = .ok (.iload_n 2, 1) := by decide +kernel
theorem dX6_isThere_6 : decode cX6_isThere 6 = .ok (.invokevirtual 100, 3) := by decide +kernel
theorem dX6_isThere_9 : decode cX6_isThere 9 = .ok (.iload_n 1, 1) := by decide +kernel
theorem dX6_isThere_10 : decode cX6_isThere 10 = .ok (.invokevirtual 269, 3) := by decide +kernel
theorem dX6_isThere_13 : decode cX6_isThere 13 = .ok (.ifnull 7, 3) := by decide +kernel
theorem dX6_isThere_16 : decode cX6_isThere 16 = .ok (.iconst 1, 1) := by decide +kernel
theorem dX6_isThere_17 : decode cX6_isThere 17 = .ok (.goto 4, 3) := by decide +kernel
theorem dX6_isThere_20 : decode cX6_isThere 20 = .ok (.iconst 0, 1) := by decide +kernel
theorem dX6_isThere_21 : decode cX6_isThere 21 = .ok (.ireturn, 1) := by decide +kernel
theorem lk_X6_isThere : LK yX6_isThere cX6_isThere 3 (some .boolean) 2 := ⟨qW_at 432 (by decide +kernel) rfl, qW_at 29 (by decide +kernel) rfl, by decide, by decide, by decide +kernel⟩
theorem im_X6_isThere : Cond.instanceMethod yX6_isThere ∈ qW := qW_at 430 (by decide +kernel) rfl
theorem se_X6_isThere : Cond.selects RX6 yX6_isThere yX6_isThere ∈ qW := qW_at 431 (by decide +kernel) rfl
def F_X6_isThere (this : Nat) (person_ : Int32) (meeting_ : Int32) : QX Int32 :=
  (xb (xb (xp person_) fun v1 => F_X6_needPerson v1) fun _ =>
  (xb (xb (xb (xb (xb (xp (some this)) fun v2 => xb (xp meeting_) fun v3 => xo 7 v2 fun q => F_X6_meetingNumbered q v3) fun v4 => xb (xp person_) fun v5 => xo 1 v4 fun q => F_X0_versionThere q v5) fun v6 => xp (decide (¬ v6 = none))) fun v7 => xp (b2i v7)) xz))
set_option maxRecDepth 100000 in
set_option maxHeartbeats 4000000 in
theorem M_X6_isThere (this : Nat) (person_ : Int32) (meeting_ : Int32) : MM yX6_isThere cX6_isThere 3 (some .boolean) 7 102 2 12 encI [.ref this, .int person_, .int meeting_] (F_X6_isThere this person_ meeting_) := by
  refine MM_of (env0 := [(0, va_rf (some this)), (1, .int person_), (2, .int meeting_)]) (by decide) (by exact Nat.le_of_ble_eq_true rfl) (by rfl) (fun k mm res X C hR hN hr hname h => ?_)
  have X : CX k cX6_isThere RX6 := X
  have hT : TH k (fun e m' => res = (.error e, m')) := TH_of C
  have htr := C.2.2.2.1
  unfold F_X6_isThere at h
  exact SB_go (T := fun e m' => res = (.error e, m')) (RET := fun v m' => res = (.ok v, m')) (SB_do (XE_1 (pB := pU)  (L_iload_n (x := person_) 1 X dX6_isThere_0 rfl rfl) (fun v0 st mm a b hd hc hs h => g_callS (st := st) X hT htr (M_X6_needPerson v0) lk_X6_needPerson st_X6_needPerson ml_X6_72 rfl (by rw [hR]; exact ⟨Nat.le_of_ble_eq_true rfl, Nat.le_of_ble_eq_true rfl⟩) (Nat.le_trans hd (by decide)) ⟨hc, hs⟩ dX6_isThere_1 h))
  (SB_retZ X C hr dX6_isThere_21 (XE_b2i (CE_1 (XE_2 (pB := pR) wR (XE_2 (pB := pR) wR (L_aload_n (r := (some this)) 0 X dX6_isThere_4 rfl rfl) (L_iload_n (x := meeting_) 2 X dX6_isThere_5 rfl rfl) (fun v0 v1 st mm a b hd hc hs h => g_callVo (st := st) (cI := 7) X hT htr rfl (fun q => M_X6_meetingNumbered q v1) lk_X6_meetingNumbered im_X6_meetingNumbered se_X6_meetingNumbered ml_X6_100 rfl (by rw [hR]; exact ⟨Nat.le_of_ble_eq_true rfl, Nat.le_of_ble_eq_true rfl⟩) (Nat.le_trans hd (by decide)) ⟨hc, hs⟩ dX6_isThere_6 h)) (L_iload_n (x := person_) 1 X dX6_isThere_9 rfl rfl) (fun v0 v1 st mm a b hd hc hs h => g_callVo (st := st) (cI := 1) X hT htr rfl (fun q => M_X0_versionThere q v1) lk_X0_versionThere im_X0_versionThere se_X0_versionThere ml_X6_269 rfl (by rw [hR]; exact ⟨Nat.le_of_ble_eq_true rfl, Nat.le_of_ble_eq_true rfl⟩) (Nat.le_trans hd (by decide)) ⟨hc, hs⟩ dX6_isThere_10 h)) (N_ne_F X dX6_isThere_13 (by decide))) (S_b1 X dX6_isThere_16 dX6_isThere_17 (by decide)) (S_b0 X dX6_isThere_20)))) h (by rw [hR]; decide) (by rw [hR]; decide)
theorem dX6_sequence_0 : decode cX6_sequence 0 = .ok (.iload_n 1, 1) := by decide +kernel
theorem dX6_sequence_1 : decode cX6_sequence 1 = .ok (.invokestatic 72, 3) := by decide +kernel
theorem dX6_sequence_4 : decode cX6_sequence 4 = .ok (.aload_n 0, 1) := by decide +kernel
theorem dX6_sequence_5 : decode cX6_sequence 5 = .ok (.iload_n 2, 1) := by decide +kernel
theorem dX6_sequence_6 : decode cX6_sequence 6 = .ok (.invokevirtual 100, 3) := by decide +kernel
theorem dX6_sequence_9 : decode cX6_sequence 9 = .ok (.iload_n 1, 1) := by decide +kernel
theorem dX6_sequence_10 : decode cX6_sequence 10 = .ok (.invokevirtual 272, 3) := by decide +kernel
theorem dX6_sequence_13 : decode cX6_sequence 13 = .ok (.astore_n 3, 1) := by decide +kernel
theorem dX6_sequence_14 : decode cX6_sequence 14 = .ok (.aload_n 3, 1) := by decide +kernel
theorem dX6_sequence_15 : decode cX6_sequence 15 = .ok (.ifnonnull 7, 3) := by decide +kernel
theorem dX6_sequence_18 : decode cX6_sequence 18 = .ok (.iconst (-1), 1) := by decide +kernel
theorem dX6_sequence_19 : decode cX6_sequence 19 = .ok (.goto 7, 3) := by decide +kernel
theorem dX6_sequence_22 : decode cX6_sequence 22 = .ok (.aload_n 3, 1) := by decide +kernel
theorem dX6_sequence_23 : decode cX6_sequence 23 = .ok (.getfield 275, 3) := by decide +kernel
theorem dX6_sequence_26 : decode cX6_sequence 26 = .ok (.ireturn, 1) := by decide +kernel
theorem lk_X6_sequence : LK yX6_sequence cX6_sequence 4 (some .int) 2 := ⟨qW_at 420 (by decide +kernel) rfl, qW_at 29 (by decide +kernel) rfl, by decide, by decide, by decide +kernel⟩
theorem im_X6_sequence : Cond.instanceMethod yX6_sequence ∈ qW := qW_at 418 (by decide +kernel) rfl
theorem se_X6_sequence : Cond.selects RX6 yX6_sequence yX6_sequence ∈ qW := qW_at 419 (by decide +kernel) rfl
def F_X6_sequence (this : Nat) (person_ : Int32) (meeting_ : Int32) : QX Int32 :=
  (xb (xb (xp person_) fun v1 => F_X6_needPerson v1) fun _ =>
  (xb (xb (xb (xp (some this)) fun v2 => xb (xp meeting_) fun v3 => xo 7 v2 fun q => F_X6_meetingNumbered q v3) fun v4 => xb (xp person_) fun v5 => xo 1 v4 fun q => F_X0_versionOf q v5) fun held_6 =>
  (xb (xb (xp held_6) fun v7 => xp (decide (v7 = none))) fun v9 => if v9 then (xp (-1 : Int32)) else (xb (xp held_6) fun v8 => xgi 5 0 v8))))
set_option maxRecDepth 100000 in
set_option maxHeartbeats 4000000 in
theorem M_X6_sequence (this : Nat) (person_ : Int32) (meeting_ : Int32) : MM yX6_sequence cX6_sequence 4 (some .int) 7 102 2 12 encI [.ref this, .int person_, .int meeting_] (F_X6_sequence this person_ meeting_) := by
  refine MM_of (env0 := [(0, va_rf (some this)), (1, .int person_), (2, .int meeting_)]) (by decide) (by exact Nat.le_of_ble_eq_true rfl) (by rfl) (fun k mm res X C hR hN hr hname h => ?_)
  have X : CX k cX6_sequence RX6 := X
  have hT : TH k (fun e m' => res = (.error e, m')) := TH_of C
  have htr := C.2.2.2.1
  unfold F_X6_sequence at h
  exact SB_go (T := fun e m' => res = (.error e, m')) (RET := fun v m' => res = (.ok v, m')) (SB_do (XE_1 (pB := pU)  (L_iload_n (x := person_) 1 X dX6_sequence_0 rfl rfl) (fun v0 st mm a b hd hc hs h => g_callS (st := st) X hT htr (M_X6_needPerson v0) lk_X6_needPerson st_X6_needPerson ml_X6_72 rfl (by rw [hR]; exact ⟨Nat.le_of_ble_eq_true rfl, Nat.le_of_ble_eq_true rfl⟩) (Nat.le_trans hd (by decide)) ⟨hc, hs⟩ dX6_sequence_1 h))
  (SB_let (XE_2 (pB := pR) wR (XE_2 (pB := pR) wR (L_aload_n (r := (some this)) 0 X dX6_sequence_4 rfl rfl) (L_iload_n (x := meeting_) 2 X dX6_sequence_5 rfl rfl) (fun v0 v1 st mm a b hd hc hs h => g_callVo (st := st) (cI := 7) X hT htr rfl (fun q => M_X6_meetingNumbered q v1) lk_X6_meetingNumbered im_X6_meetingNumbered se_X6_meetingNumbered ml_X6_100 rfl (by rw [hR]; exact ⟨Nat.le_of_ble_eq_true rfl, Nat.le_of_ble_eq_true rfl⟩) (Nat.le_trans hd (by decide)) ⟨hc, hs⟩ dX6_sequence_6 h)) (L_iload_n (x := person_) 1 X dX6_sequence_9 rfl rfl) (fun v0 v1 st mm a b hd hc hs h => g_callVo (st := st) (cI := 1) X hT htr rfl (fun q => M_X0_versionOf q v1) lk_X0_versionOf im_X0_versionOf se_X0_versionOf ml_X6_272 rfl (by rw [hR]; exact ⟨Nat.le_of_ble_eq_true rfl, Nat.le_of_ble_eq_true rfl⟩) (Nat.le_trans hd (by decide)) ⟨hc, hs⟩ dX6_sequence_10 h)) (S_astore_n (ev := fun held_6 => [(3, va_rf held_6), (0, va_rf (some this)), (1, .int person_), (2, .int meeting_)]) X dX6_sequence_13 rfl (by rw [hN]; decide) (fun _ => rfl)) fun held_6 =>
  (SB_retI X C hr dX6_sequence_26 (XE_tern (CE_1 (L_aload_n (r := held_6) 0 X dX6_sequence_14 rfl rfl) (N_eq_F X dX6_sequence_15 (by decide))) (L_iconst (v := (-1)) X dX6_sequence_18 (by decide)) (S_goto X dX6_sequence_19 (by decide)) (XE_1 (L_aload_n (r := held_6) 0 X dX6_sequence_22 rfl rfl) (O_gi (c := 5) (j := 0) X rfl inW4 (by decide) fl_X6_275 rfl dX6_sequence_23)))))) h (by rw [hR]; decide) (by rw [hR]; decide)
