theorem dX5_clockChange_0 : decode cX5_clockChange 0 = .ok (.iload_n 0, 1) := by decide +kernel
theorem dX5_clockChange_1 : decode cX5_clockChange 1 = .ok (.bipush 24, 2) := by decide +kernel
theorem dX5_clockChange_3 : decode cX5_clockChange 3 = .ok (.imul, 1) := by decide +kernel
theorem dX5_clockChange_4 : decode cX5_clockChange 4 = .ok (.iconst 2, 1) := by decide +kernel
theorem dX5_clockChange_5 : decode cX5_clockChange 5 = .ok (.iadd, 1) := by decide +kernel
theorem dX5_clockChange_6 : decode cX5_clockChange 6 = .ok (.ireturn, 1) := by decide +kernel
theorem lk_X5_clockChange : LK yX5_clockChange cX5_clockChange 1 (some .int) 1 := ⟨qW_at 267 (by decide +kernel) rfl, qW_at 30 (by decide +kernel) rfl, by decide, by decide, by decide +kernel⟩
theorem st_X5_clockChange : Cond.static yX5_clockChange ∈ qW := qW_at 266 (by decide +kernel) rfl
def F_X5_clockChange (day_ : Int32) : QX Int32 :=
  (xb (xb (xp day_) fun v1 => xb (xp (24 : Int32)) fun v2 => (xp (v1 * v2))) fun v3 => xb (xp (2 : Int32)) fun v4 => (xp (v3 + v4)))
set_option maxRecDepth 100000 in
set_option maxHeartbeats 4000000 in
theorem M_X5_clockChange (day_ : Int32) : MM yX5_clockChange cX5_clockChange 1 (some .int) 0 0 0 0 encI [.int day_] (F_X5_clockChange day_) := by
  refine MM_of (env0 := [(0, .int day_)]) (by decide) (by exact Nat.le_of_ble_eq_true rfl) (by rfl) (fun k mm res X C hR hN hr hname h => ?_)
  have X : CX k cX5_clockChange RX5 := X
  have hT : TH k (fun e m' => res = (.error e, m')) := TH_of C
  have htr := C.2.2.2.1
  unfold F_X5_clockChange at h
  exact SB_go (T := fun e m' => res = (.error e, m')) (RET := fun v m' => res = (.ok v, m')) (SB_retI X C hr dX5_clockChange_6 (XE_2 wI (XE_2 wI (L_iload_n (x := day_) 0 X dX5_clockChange_0 rfl rfl) (L_bipush (v := (24)) X dX5_clockChange_1 (by decide)) (O_imul X dX5_clockChange_3)) (L_iconst (v := 2) X dX5_clockChange_4 (by decide)) (O_iadd X dX5_clockChange_5))) h (by rw [hR]; decide) (by rw [hR]; decide)
theorem dX5_isSummer_0 : decode cX5_isSummer 0 = .ok (.iload_n 1, 1) := by decide +kernel
theorem dX5_isSummer_1 : decode cX5_isSummer 1 = .ok (.aload_n 0, 1) := by decide +kernel
theorem dX5_isSummer_2 : decode cX5_isSummer 2 = .ok (.getfield 18, 3) := by decide +kernel
theorem dX5_isSummer_5 : decode cX5_isSummer 5 = .ok (.iadd, 1) := by decide +kernel
theorem dX5_isSummer_6 : decode cX5_isSummer 6 = .ok (.istore_n 2, 1) := by decide +kernel
theorem dX5_isSummer_7 : decode cX5_isSummer 7 = .ok (.aload_n 0, 1) := by decide +kernel
theorem dX5_isSummer_8 : decode cX5_isSummer 8 = .ok (.getfield 9, 3) := by decide +kernel
theorem dX5_isSummer_11 : decode cX5_isSummer 11 = .ok (.iconst (-1), 1) := by decide +kernel
theorem dX5_isSummer_12 : decode cX5_isSummer 12 = .ok (.if_icmp .eq 29, 3) := by decide +kernel
theorem dX5_isSummer_15 : decode cX5_isSummer 15 = .ok (.iload_n 2, 1) := by decide +kernel
theorem dX5_isSummer_16 : decode cX5_isSummer 16 = .ok (.aload_n 0, 1) := by decide +kernel
theorem dX5_isSummer_17 : decode cX5_isSummer 17 = .ok (.getfield 9, 3) := by decide +kernel
theorem dX5_isSummer_20 : decode cX5_isSummer 20 = .ok (.invokestatic 25, 3) := by decide +kernel
theorem dX5_isSummer_23 : decode cX5_isSummer 23 = .ok (.if_icmp .lt 18, 3) := by decide +kernel
theorem dX5_isSummer_26 : decode cX5_isSummer 26 = .ok (.iload_n 2, 1) := by decide +kernel
theorem dX5_isSummer_27 : decode cX5_isSummer 27 = .ok (.aload_n 0, 1) := by decide +kernel
theorem dX5_isSummer_28 : decode cX5_isSummer 28 = .ok (.getfield 15, 3) := by decide +kernel
theorem dX5_isSummer_31 : decode cX5_isSummer 31 = .ok (.invokestatic 25, 3) := by decide +kernel
theorem dX5_isSummer_34 : decode cX5_isSummer 34 = .ok (.if_icmp .ge 7, 3) := by decide +kernel
theorem dX5_isSummer_37 : decode cX5_isSummer 37 = .ok (.iconst 1, 1) := by decide +kernel
theorem dX5_isSummer_38 : decode cX5_isSummer 38 = .ok (.goto 4, 3) := by decide +kernel
theorem dX5_isSummer_41 : decode cX5_isSummer 41 = .ok (.iconst 0, 1) := by decide +kernel
theorem dX5_isSummer_42 : decode cX5_isSummer 42 = .ok (.ireturn, 1) := by decide +kernel
theorem lk_X5_isSummer : LK yX5_isSummer cX5_isSummer 3 (some .boolean) 1 := ⟨qW_at 264 (by decide +kernel) rfl, qW_at 30 (by decide +kernel) rfl, by decide, by decide, by decide +kernel⟩
theorem im_X5_isSummer : Cond.instanceMethod yX5_isSummer ∈ qW := qW_at 263 (by decide +kernel) rfl
theorem se_X5_isSummer : Cond.selects RX5 yX5_isSummer yX5_isSummer ∈ qW := qW_at 3 (by decide +kernel) rfl
def F_X5_isSummer (this : Nat) (hour_ : Int32) : QX Int32 :=
  (xb (xb (xp hour_) fun v2 => xb (xb (xp (some this)) fun v1 => xgi 6 0 v1) fun v3 => (xp (v2 + v3))) fun plain_4 =>
  (xb (xb (xb (xb (xb (xb (xp (some this)) fun v5 => xgi 6 1 v5) fun v6 => xb (xp (-1 : Int32)) fun v7 => xp (decide (¬ v6 = v7))) fun v12 => if v12 then (xb (xp plain_4) fun v8 => xb (xb (xb (xp (some this)) fun v9 => xgi 6 1 v9) fun v10 => F_X5_clockChange v10) fun v11 => xp (decide (v11 ≤ v8))) else xp false) fun v17 => if v17 then (xb (xp plain_4) fun v13 => xb (xb (xb (xp (some this)) fun v14 => xgi 6 2 v14) fun v15 => F_X5_clockChange v15) fun v16 => xp (decide (v13 < v16))) else xp false) fun v18 => xp (b2i v18)) xz))
set_option maxRecDepth 100000 in
set_option maxHeartbeats 4000000 in
theorem M_X5_isSummer (this : Nat) (hour_ : Int32) : MM yX5_isSummer cX5_isSummer 3 (some .boolean) 1 20 0 0 encI [.ref this, .int hour_] (F_X5_isSummer this hour_) := by
  refine MM_of (env0 := [(0, va_rf (some this)), (1, .int hour_)]) (by decide) (by exact Nat.le_of_ble_eq_true rfl) (by rfl) (fun k mm res X C hR hN hr hname h => ?_)
  have X : CX k cX5_isSummer RX5 := X
  have hT : TH k (fun e m' => res = (.error e, m')) := TH_of C
  have htr := C.2.2.2.1
  unfold F_X5_isSummer at h
  exact SB_go (T := fun e m' => res = (.error e, m')) (RET := fun v m' => res = (.ok v, m')) (SB_let (XE_2 wI (L_iload_n (x := hour_) 1 X dX5_isSummer_0 rfl rfl) (XE_1 (L_aload_n (r := (some this)) 0 X dX5_isSummer_1 rfl rfl) (O_gi (c := 6) (j := 0) X rfl inW5 (by decide) fl_X5_18 rfl dX5_isSummer_2)) (O_iadd X dX5_isSummer_5)) (S_istore_n (ev := fun plain_4 => [(2, .int plain_4), (0, va_rf (some this)), (1, .int hour_)]) X dX5_isSummer_6 rfl (by rw [hN]; decide) (fun _ => rfl)) fun plain_4 =>
  (SB_retZ X C hr dX5_isSummer_42 (XE_b2i (CE_and (CE_and (CE_2 wI (XE_1 (L_aload_n (r := (some this)) 1 X dX5_isSummer_7 rfl rfl) (O_gi (c := 6) (j := 1) X rfl inW5 (by decide) fl_X5_9 rfl dX5_isSummer_8)) (L_iconst (v := (-1)) X dX5_isSummer_11 (by decide)) (C_ne_F X dX5_isSummer_12 (by decide))) (CE_2 wI (L_iload_n (x := plain_4) 0 X dX5_isSummer_15 rfl rfl) (XE_1 (pB := pI)  (XE_1 (L_aload_n (r := (some this)) 1 X dX5_isSummer_16 rfl rfl) (O_gi (c := 6) (j := 1) X rfl inW5 (by decide) fl_X5_9 rfl dX5_isSummer_17)) (fun v0 st mm a b hd hc hs h => g_callS (st := st) X hT htr (M_X5_clockChange v0) lk_X5_clockChange st_X5_clockChange ml_X5_25 rfl (by rw [hR]; exact ⟨Nat.le_of_ble_eq_true rfl, Nat.le_of_ble_eq_true rfl⟩) (Nat.le_trans hd (by decide)) ⟨hc, hs⟩ dX5_isSummer_20 h)) (C_ge_F X dX5_isSummer_23 (by decide)))) (CE_2 wI (L_iload_n (x := plain_4) 0 X dX5_isSummer_26 rfl rfl) (XE_1 (pB := pI)  (XE_1 (L_aload_n (r := (some this)) 1 X dX5_isSummer_27 rfl rfl) (O_gi (c := 6) (j := 2) X rfl inW5 (by decide) fl_X5_15 rfl dX5_isSummer_28)) (fun v0 st mm a b hd hc hs h => g_callS (st := st) X hT htr (M_X5_clockChange v0) lk_X5_clockChange st_X5_clockChange ml_X5_25 rfl (by rw [hR]; exact ⟨Nat.le_of_ble_eq_true rfl, Nat.le_of_ble_eq_true rfl⟩) (Nat.le_trans hd (by decide)) ⟨hc, hs⟩ dX5_isSummer_31 h)) (C_lt_F X dX5_isSummer_34 (by decide)))) (S_b1 X dX5_isSummer_37 dX5_isSummer_38 (by decide)) (S_b0 X dX5_isSummer_41)))) h (by rw [hR]; decide) (by rw [hR]; decide)
theorem dX5_toLocal_0 : decode cX5_toLocal 0 = .ok (.iload_n 1, 1) := by decide +kernel
theorem dX5_toLocal_1 : decode cX5_toLocal 1 = .ok (.aload_n 0, 1) := by decide +kernel
theorem dX5_toLocal_2 : decode cX5_toLocal 2 = .ok (.getfield 18, 3) := by decide +kernel
theorem dX5_toLocal_5 : decode cX5_toLocal 5 = .ok (.iadd, 1) := by decide +kernel
theorem dX5_toLocal_6 : decode cX5_toLocal 6 = .ok (.aload_n 0, 1) := by decide +kernel
theorem dX5_toLocal_7 : decode cX5_toLocal 7 = .ok (.iload_n 1, 1) := by decide +kernel
theorem dX5_toLocal_8 : decode cX5_toLocal 8 = .ok (.invokevirtual 21, 3) := by decide +kernel
theorem dX5_toLocal_11 : decode cX5_toLocal 11 = .ok (.ifCond .eq 7, 3) := by decide +kernel
theorem dX5_toLocal_14 : decode cX5_toLocal 14 = .ok (.iconst 1, 1) := by decide +kernel
theorem dX5_toLocal_15 : decode cX5_toLocal 15 = .ok (.goto 4, 3) := by decide +kernel
theorem dX5_toLocal_18 : decode cX5_toLocal 18 = .ok (.iconst 0, 1) := by decide +kernel
theorem dX5_toLocal_19 : decode cX5_toLocal 19 = .ok (.iadd, 1) := by decide +kernel
theorem dX5_toLocal_20 : decode cX5_toLocal 20 = .ok (.ireturn, 1) := by decide +kernel
theorem lk_X5_toLocal : LK yX5_toLocal cX5_toLocal 2 (some .int) 1 := ⟨qW_at 388 (by decide +kernel) rfl, qW_at 30 (by decide +kernel) rfl, by decide, by decide, by decide +kernel⟩
theorem im_X5_toLocal : Cond.instanceMethod yX5_toLocal ∈ qW := qW_at 386 (by decide +kernel) rfl
theorem se_X5_toLocal : Cond.selects RX5 yX5_toLocal yX5_toLocal ∈ qW := qW_at 387 (by decide +kernel) rfl
def F_X5_toLocal (this : Nat) (hour_ : Int32) : QX Int32 :=
  (xb (xb (xp hour_) fun v2 => xb (xb (xp (some this)) fun v1 => xgi 6 0 v1) fun v3 => (xp (v2 + v3))) fun v8 => xb (xb (xb (xb (xp (some this)) fun v4 => xb (xp hour_) fun v5 => xo 6 v4 fun q => F_X5_isSummer q v5) fun v6 => xp (decide (¬ v6 = 0))) fun v7 => if v7 then (xp (1 : Int32)) else (xp (0 : Int32))) fun v9 => (xp (v8 + v9)))
set_option maxRecDepth 100000 in
set_option maxHeartbeats 4000000 in
theorem M_X5_toLocal (this : Nat) (hour_ : Int32) : MM yX5_toLocal cX5_toLocal 2 (some .int) 2 42 0 0 encI [.ref this, .int hour_] (F_X5_toLocal this hour_) := by
  refine MM_of (env0 := [(0, va_rf (some this)), (1, .int hour_)]) (by decide) (by exact Nat.le_of_ble_eq_true rfl) (by rfl) (fun k mm res X C hR hN hr hname h => ?_)
  have X : CX k cX5_toLocal RX5 := X
  have hT : TH k (fun e m' => res = (.error e, m')) := TH_of C
  have htr := C.2.2.2.1
  unfold F_X5_toLocal at h
  exact SB_go (T := fun e m' => res = (.error e, m')) (RET := fun v m' => res = (.ok v, m')) (SB_retI X C hr dX5_toLocal_20 (XE_2 wI (XE_2 wI (L_iload_n (x := hour_) 1 X dX5_toLocal_0 rfl rfl) (XE_1 (L_aload_n (r := (some this)) 0 X dX5_toLocal_1 rfl rfl) (O_gi (c := 6) (j := 0) X rfl inW5 (by decide) fl_X5_18 rfl dX5_toLocal_2)) (O_iadd X dX5_toLocal_5)) (XE_tern (CE_1 (XE_2 (pB := pI) wR (L_aload_n (r := (some this)) 0 X dX5_toLocal_6 rfl rfl) (L_iload_n (x := hour_) 1 X dX5_toLocal_7 rfl rfl) (fun v0 v1 st mm a b hd hc hs h => g_callVo (st := st) (cI := 6) X hT htr rfl (fun q => M_X5_isSummer q v1) lk_X5_isSummer im_X5_isSummer se_X5_isSummer ml_X5_21 rfl (by rw [hR]; exact ⟨Nat.le_of_ble_eq_true rfl, Nat.le_of_ble_eq_true rfl⟩) (Nat.le_trans hd (by decide)) ⟨hc, hs⟩ dX5_toLocal_8 h)) (Z_ne_F X dX5_toLocal_11 (by decide))) (L_iconst (v := 1) X dX5_toLocal_14 (by decide)) (S_goto X dX5_toLocal_15 (by decide)) (L_iconst (v := 0) X dX5_toLocal_18 (by decide))) (O_iadd X dX5_toLocal_19))) h (by rw [hR]; decide) (by rw [hR]; decide)
theorem dX5_toCommon_0 : decode cX5_toCommon 0 = .ok (.iload_n 1, 1) := by decide +kernel
theorem dX5_toCommon_1 : decode cX5_toCommon 1 = .ok (.aload_n 0, 1) := by decide +kernel
theorem dX5_toCommon_2 : decode cX5_toCommon 2 = .ok (.getfield 18, 3) := by decide +kernel
theorem dX5_toCommon_5 : decode cX5_toCommon 5 = .ok (.isub, 1) := by decide +kernel
theorem dX5_toCommon_6 : decode cX5_toCommon 6 = .ok (.iconst 1, 1) := by decide +kernel
theorem dX5_toCommon_7 : decode cX5_toCommon 7 = .ok (.isub, 1) := by decide +kernel
theorem dX5_toCommon_8 : decode cX5_toCommon 8 = .ok (.istore_n 2, 1) := by decide +kernel
theorem dX5_toCommon_9 : decode cX5_toCommon 9 = .ok (.aload_n 0, 1) := by decide +kernel
theorem dX5_toCommon_10 : decode cX5_toCommon 10 = .ok (.iload_n 2, 1) := by decide +kernel
theorem dX5_toCommon_11 : decode cX5_toCommon 11 = .ok (.invokevirtual 21, 3) := by decide +kernel
theorem dX5_toCommon_14 : decode cX5_toCommon 14 = .ok (.ifCond .eq 7, 3) := by decide +kernel
theorem dX5_toCommon_17 : decode cX5_toCommon 17 = .ok (.iload_n 2, 1) := by decide +kernel
theorem dX5_toCommon_18 : decode cX5_toCommon 18 = .ok (.goto 9, 3) := by decide +kernel
theorem dX5_toCommon_21 : decode cX5_toCommon 21 = .ok (.iload_n 1, 1) := by decide +kernel
theorem dX5_toCommon_22 : decode cX5_toCommon 22 = .ok (.aload_n 0, 1) := by decide +kernel
theorem dX5_toCommon_23 : decode cX5_toCommon 23 = .ok (.getfield 18, 3) := by decide +kernel
theorem dX5_toCommon_26 : decode cX5_toCommon 26 = .ok (.isub, 1) := by decide +kernel
theorem dX5_toCommon_27 : decode cX5_toCommon 27 = .ok (.ireturn, 1) := by decide +kernel
theorem lk_X5_toCommon : LK yX5_toCommon cX5_toCommon 3 (some .int) 1 := ⟨qW_at 260 (by decide +kernel) rfl, qW_at 30 (by decide +kernel) rfl, by decide, by decide, by decide +kernel⟩
theorem im_X5_toCommon : Cond.instanceMethod yX5_toCommon ∈ qW := qW_at 258 (by decide +kernel) rfl
theorem se_X5_toCommon : Cond.selects RX5 yX5_toCommon yX5_toCommon ∈ qW := qW_at 259 (by decide +kernel) rfl
def F_X5_toCommon (this : Nat) (local_ : Int32) : QX Int32 :=
  (xb (xb (xb (xp local_) fun v2 => xb (xb (xp (some this)) fun v1 => xgi 6 0 v1) fun v3 => (xp (v2 - v3))) fun v4 => xb (xp (1 : Int32)) fun v5 => (xp (v4 - v5))) fun inSummer_6 =>
  (xb (xb (xb (xp (some this)) fun v7 => xb (xp inSummer_6) fun v8 => xo 6 v7 fun q => F_X5_isSummer q v8) fun v9 => xp (decide (¬ v9 = 0))) fun v13 => if v13 then (xp inSummer_6) else (xb (xp local_) fun v11 => xb (xb (xp (some this)) fun v10 => xgi 6 0 v10) fun v12 => (xp (v11 - v12)))))
set_option maxRecDepth 100000 in
set_option maxHeartbeats 4000000 in
theorem M_X5_toCommon (this : Nat) (local_ : Int32) : MM yX5_toCommon cX5_toCommon 3 (some .int) 2 42 0 0 encI [.ref this, .int local_] (F_X5_toCommon this local_) := by
  refine MM_of (env0 := [(0, va_rf (some this)), (1, .int local_)]) (by decide) (by exact Nat.le_of_ble_eq_true rfl) (by rfl) (fun k mm res X C hR hN hr hname h => ?_)
  have X : CX k cX5_toCommon RX5 := X
  have hT : TH k (fun e m' => res = (.error e, m')) := TH_of C
  have htr := C.2.2.2.1
  unfold F_X5_toCommon at h
  exact SB_go (T := fun e m' => res = (.error e, m')) (RET := fun v m' => res = (.ok v, m')) (SB_let (XE_2 wI (XE_2 wI (L_iload_n (x := local_) 1 X dX5_toCommon_0 rfl rfl) (XE_1 (L_aload_n (r := (some this)) 0 X dX5_toCommon_1 rfl rfl) (O_gi (c := 6) (j := 0) X rfl inW5 (by decide) fl_X5_18 rfl dX5_toCommon_2)) (O_isub X dX5_toCommon_5)) (L_iconst (v := 1) X dX5_toCommon_6 (by decide)) (O_isub X dX5_toCommon_7)) (S_istore_n (ev := fun inSummer_6 => [(2, .int inSummer_6), (0, va_rf (some this)), (1, .int local_)]) X dX5_toCommon_8 rfl (by rw [hN]; decide) (fun _ => rfl)) fun inSummer_6 =>
  (SB_retI X C hr dX5_toCommon_27 (XE_tern (CE_1 (XE_2 (pB := pI) wR (L_aload_n (r := (some this)) 1 X dX5_toCommon_9 rfl rfl) (L_iload_n (x := inSummer_6) 0 X dX5_toCommon_10 rfl rfl) (fun v0 v1 st mm a b hd hc hs h => g_callVo (st := st) (cI := 6) X hT htr rfl (fun q => M_X5_isSummer q v1) lk_X5_isSummer im_X5_isSummer se_X5_isSummer ml_X5_21 rfl (by rw [hR]; exact ⟨Nat.le_of_ble_eq_true rfl, Nat.le_of_ble_eq_true rfl⟩) (Nat.le_trans hd (by decide)) ⟨hc, hs⟩ dX5_toCommon_11 h)) (Z_ne_F X dX5_toCommon_14 (by decide))) (L_iload_n (x := inSummer_6) 0 X dX5_toCommon_17 rfl rfl) (S_goto X dX5_toCommon_18 (by decide)) (XE_2 wI (L_iload_n (x := local_) 2 X dX5_toCommon_21 rfl rfl) (XE_1 (L_aload_n (r := (some this)) 1 X dX5_toCommon_22 rfl rfl) (O_gi (c := 6) (j := 0) X rfl inW5 (by decide) fl_X5_18 rfl dX5_toCommon_23)) (O_isub X dX5_toCommon_26))))) h (by rw [hR]; decide) (by rw [hR]; decide)
theorem dX5_init_0 : decode cX5_init 0 = .ok (.aload_n 0, 1) := by decide +kernel
theorem dX5_init_1 : decode cX5_init 1 = .ok (.invokespecial 3, 3) := by decide +kernel
theorem dX5_init_4 : decode cX5_init 4 = .ok (.aload_n 0, 1) := by decide +kernel
theorem dX5_init_5 : decode cX5_init 5 = .ok (.iconst (-1), 1) := by decide +kernel
theorem dX5_init_6 : decode cX5_init 6 = .ok (.putfield 9, 3) := by decide +kernel
theorem dX5_init_9 : decode cX5_init 9 = .ok (.aload_n 0, 1) := by decide +kernel
theorem dX5_init_10 : decode cX5_init 10 = .ok (.iconst (-1), 1) := by decide +kernel
theorem dX5_init_11 : decode cX5_init 11 = .ok (.putfield 15, 3) := by decide +kernel
theorem dX5_init_14 : decode cX5_init 14 = .ok (.return_, 1) := by decide +kernel
theorem lk_X5_init : LK yX5_init cX5_init 1 none 0 := ⟨qW_at 74 (by decide +kernel) rfl, qW_at 30 (by decide +kernel) rfl, by decide, by decide, by decide +kernel⟩
theorem im_X5_init : Cond.instanceMethod yX5_init ∈ qW := qW_at 73 (by decide +kernel) rfl
def F_X5_init (this : Nat) : QX Unit :=
  (xb (xb (xp (some this)) fun v1 => xb (xp (-1 : Int32)) fun v2 => xsi 6 1 v1 v2) fun _ =>
  (xb (xb (xp (some this)) fun v3 => xb (xp (-1 : Int32)) fun v4 => xsi 6 2 v3 v4) fun _ =>
  (xp ())))
set_option maxRecDepth 100000 in
set_option maxHeartbeats 4000000 in
theorem M_X5_init (this : Nat) : MM yX5_init cX5_init 1 none 1 12 0 0 encU [.ref this] (F_X5_init this) := by
  refine MM_of (env0 := [(0, va_rf (some this))]) (by decide) (by exact Nat.le_of_ble_eq_true rfl) (by rfl) (fun k mm res X C hR hN hr hname h => ?_)
  have X : CX k cX5_init RX5 := X
  have hT : TH k (fun e m' => res = (.error e, m')) := TH_of C
  have htr := C.2.2.2.1
  unfold F_X5_init at h
  exact SB_go (T := fun e m' => res = (.error e, m')) (RET := fun v m' => res = (.ok v, m')) (SB_pre (env' := [(0, va_rf (some this))]) (S_super (j := 0) X dX5_init_0 rfl dX5_init_1 rfl ml_X5_3 oi_in oi_co (by rw [hR]; exact Nat.le_of_ble_eq_true rfl) (by rw [hR]; exact Nat.le_of_ble_eq_true rfl))
  (SB_do (XE_2 wR (L_aload_n (r := (some this)) 0 X dX5_init_4 rfl rfl) (L_iconst (v := (-1)) X dX5_init_5 (by decide)) (O_si (c := 6) (j := 1) tyX5 X rfl inW5 tyX5_ok nmX5 (by decide) fl_X5_9 (Or.inl rfl) rfl (by decide +kernel) dX5_init_6))
  (SB_do (XE_2 wR (L_aload_n (r := (some this)) 0 X dX5_init_9 rfl rfl) (L_iconst (v := (-1)) X dX5_init_10 (by decide)) (O_si (c := 6) (j := 2) tyX5 X rfl inW5 tyX5_ok nmX5 (by decide) fl_X5_15 (Or.inl rfl) rfl (by decide +kernel) dX5_init_11))
  (SB_retU X C hr dX5_init_14)))) h (by rw [hR]; decide) (by rw [hR]; decide)
theorem dX2_entriesBetween_0 : decode cX2_entriesBetween 0 = .ok (.iconst 0, 1) := by decide +kernel
theorem dX2_entriesBetween_1 : decode cX2_entriesBetween 1 = .ok (.istore_n 3, 1) := by decide +kernel
theorem dX2_entriesBetween_2 : decode cX2_entriesBetween 2 = .ok (.iconst 0, 1) := by decide +kernel
theorem dX2_entriesBetween_3 : decode cX2_entriesBetween 3 = .ok (.istore 4, 2) := by decide +kernel
theorem dX2_entriesBetween_5 : decode cX2_entriesBetween 5 = .ok (.iload 4, 2) := by decide +kernel
theorem dX2_entriesBetween_7 : decode cX2_entriesBetween 7 = .ok (.bipush 8, 2) := by decide +kernel
theorem dX2_entriesBetween_9 : decode cX2_entriesBetween 9 = .ok (.if_icmp .ge 34, 3) := by decide +kernel
theorem dX2_entriesBetween_12 : decode cX2_entriesBetween 12 = .ok (.aload_n 0, 1) := by decide +kernel
theorem dX2_entriesBetween_13 : decode cX2_entriesBetween 13 = .ok (.getfield 9, 3) := by decide +kernel
theorem dX2_entriesBetween_16 : decode cX2_entriesBetween 16 = .ok (.iload 4, 2) := by decide +kernel
theorem dX2_entriesBetween_18 : decode cX2_entriesBetween 18 = .ok (.iaload, 1) := by decide +kernel
theorem dX2_entriesBetween_19 : decode cX2_entriesBetween 19 = .ok (.iload_n 1, 1) := by decide +kernel
theorem dX2_entriesBetween_20 : decode cX2_entriesBetween 20 = .ok (.if_icmp .le 17, 3) := by decide +kernel
theorem dX2_entriesBetween_23 : decode cX2_entriesBetween 23 = .ok (.aload_n 0, 1) := by decide +kernel
theorem dX2_entriesBetween_24 : decode cX2_entriesBetween 24 = .ok (.getfield 9, 3) := by decide +kernel
theorem dX2_entriesBetween_27 : decode cX2_entriesBetween 27 = .ok (.iload 4, 2) := by decide +kernel
theorem dX2_entriesBetween_29 : decode cX2_entriesBetween 29 = .ok (.iaload, 1) := by decide +kernel
theorem dX2_entriesBetween_30 : decode cX2_entriesBetween 30 = .ok (.iload_n 2, 1) := by decide +kernel
theorem dX2_entriesBetween_31 : decode cX2_entriesBetween 31 = .ok (.if_icmp .ge 6, 3) := by decide +kernel
theorem dX2_entriesBetween_34 : decode cX2_entriesBetween 34 = .ok (.iinc 3 1, 3) := by decide +kernel
theorem dX2_entriesBetween_37 : decode cX2_entriesBetween 37 = .ok (.iinc 4 1, 3) := by decide +kernel
theorem dX2_entriesBetween_40 : decode cX2_entriesBetween 40 = .ok (.goto (-35), 3) := by decide +kernel
theorem dX2_entriesBetween_43 : decode cX2_entriesBetween 43 = .ok (.iload_n 3, 1) := by decide +kernel
theorem dX2_entriesBetween_44 : decode cX2_entriesBetween 44 = .ok (.ireturn, 1) := by decide +kernel
theorem lk_X2_entriesBetween : LK yX2_entriesBetween cX2_entriesBetween 5 (some .int) 2 := ⟨qW_at 362 (by decide +kernel) rfl, qW_at 31 (by decide +kernel) rfl, by decide, by decide, by decide +kernel⟩
theorem im_X2_entriesBetween : Cond.instanceMethod yX2_entriesBetween ∈ qW := qW_at 360 (by decide +kernel) rfl
theorem se_X2_entriesBetween : Cond.selects RX2 yX2_entriesBetween yX2_entriesBetween ∈ qW := qW_at 361 (by decide +kernel) rfl
def F_X2_entriesBetween (this : Nat) (above_ : Int32) (below_ : Int32) : QX Int32 :=
  (xb (xp (0 : Int32)) fun count_1 =>
  (xb (xp (0 : Int32)) fun number_2 =>
  (xb (xl 2000 (fun (s3 : Int32 × Int32) => (xb (xp s3.2) fun v4 => xb (xp (8 : Int32)) fun v5 => xp (decide (v4 < v5)))) (fun (s3 : Int32 × Int32) =>
  (xb (xb (xb (xb (xb (xb (xp (some this)) fun v6 => xgr 3 2 v6) fun v7 => xb (xp s3.2) fun v8 => xai 0 v7 v8) fun v9 => xb (xp above_) fun v10 => xp (decide (v10 < v9))) fun v16 => if v16 then (xb (xb (xb (xp (some this)) fun v11 => xgr 3 2 v11) fun v12 => xb (xp s3.2) fun v13 => xai 0 v12 v13) fun v14 => xb (xp below_) fun v15 => xp (decide (v14 < v15))) else xp false) fun v17 => if v17 then (xp (s3.1 + 1)) else (xp s3.1)) fun s18 =>
  (xp (s18, (s3.2 + 1))))) (count_1, number_2)) fun s19 =>
  (xp s19.1))))
set_option maxRecDepth 100000 in
set_option maxHeartbeats 4000000 in
theorem M_X2_entriesBetween (this : Nat) (above_ : Int32) (below_ : Int32) : MM yX2_entriesBetween cX2_entriesBetween 5 (some .int) 0 0 0 0 encI [.ref this, .int above_, .int below_] (F_X2_entriesBetween this above_ below_) := by
  refine MM_of (env0 := [(0, va_rf (some this)), (1, .int above_), (2, .int below_)]) (by decide) (by exact Nat.le_of_ble_eq_true rfl) (by rfl) (fun k mm res X C hR hN hr hname h => ?_)
  have X : CX k cX2_entriesBetween RX2 := X
  have hT : TH k (fun e m' => res = (.error e, m')) := TH_of C
  have htr := C.2.2.2.1
  unfold F_X2_entriesBetween at h
  exact SB_go (T := fun e m' => res = (.error e, m')) (RET := fun v m' => res = (.ok v, m')) (SB_let (L_iconst (v := 0) X dX2_entriesBetween_0 (by decide)) (S_istore_n (ev := fun count_1 => [(3, .int count_1), (0, va_rf (some this)), (1, .int above_), (2, .int below_)]) X dX2_entriesBetween_1 rfl (by rw [hN]; decide) (fun _ => rfl)) fun count_1 =>
  (SB_let (L_iconst (v := 0) X dX2_entriesBetween_2 (by decide)) (S_istore (ev := fun number_2 => [(4, .int number_2), (3, .int count_1), (0, va_rf (some this)), (1, .int above_), (2, .int below_)]) X dX2_entriesBetween_3 (by rw [hN]; decide) (fun _ => rfl)) fun number_2 =>
  (SB_seq (ST_loop (σ := Int32 × Int32) (upd := (fun (s : Int32 × Int32) => [(4, .int s.2), (3, .int s.1), (0, va_rf (some this)), (1, .int above_), (2, .int below_)])) (s0 := (count_1, number_2)) (n := 2000) (fun mm a b h => GG_sub [0, 1, 2, 3, 4] rfl h)
  (fun s3 => (CE_2 wI (L_iload (x := s3.2) 0 X dX2_entriesBetween_5 rfl) (L_bipush (v := (8)) X dX2_entriesBetween_7 (by decide)) (C_lt_F X dX2_entriesBetween_9 (by decide))))
  (fun s3 => (ST_post (ST_seq (ST_if (CE_and (CE_2 wI (XE_2 wR (XE_1 (L_aload_n (r := (some this)) 2 X dX2_entriesBetween_12 rfl rfl) (O_gr (c := 3) (j := 2) X rfl inW2 (by decide) fl_X2_9 rfl dX2_entriesBetween_13)) (L_iload (x := s3.2) 0 X dX2_entriesBetween_16 rfl) (O_ai X dX2_entriesBetween_18)) (L_iload_n (x := above_) 3 X dX2_entriesBetween_19 rfl rfl) (C_gt_F X dX2_entriesBetween_20 (by decide))) (CE_2 wI (XE_2 wR (XE_1 (L_aload_n (r := (some this)) 2 X dX2_entriesBetween_23 rfl rfl) (O_gr (c := 3) (j := 2) X rfl inW2 (by decide) fl_X2_9 rfl dX2_entriesBetween_24)) (L_iload (x := s3.2) 0 X dX2_entriesBetween_27 rfl) (O_ai X dX2_entriesBetween_29)) (L_iload_n (x := below_) 4 X dX2_entriesBetween_30 rfl rfl) (C_lt_F X dX2_entriesBetween_31 (by decide))))
  (ST_pre (env' := [(3, .int (s3.1 + 1)), (4, .int s3.2), (0, va_rf (some this)), (1, .int above_), (2, .int below_)]) (S_iinc 1 X dX2_entriesBetween_34 rfl rfl (by rw [hN]; decide) rfl)
  (ST_done (upd := (fun (s : Int32) => [(4, .int s3.2), (3, .int s), (0, va_rf (some this)), (1, .int above_), (2, .int below_)])) (s := (s3.1 + 1)) [1, 0, 2, 3, 4] rfl))
  (ST_done (upd := (fun (s : Int32) => [(4, .int s3.2), (3, .int s), (0, va_rf (some this)), (1, .int above_), (2, .int below_)])) (s := s3.1) [0, 1, 2, 3, 4] rfl)) fun s18 =>
  (ST_pre (env' := [(4, .int (s3.2 + 1)), (3, .int s18), (0, va_rf (some this)), (1, .int above_), (2, .int below_)]) (S_iinc 0 X dX2_entriesBetween_37 rfl rfl (by rw [hN]; decide) rfl)
  (ST_done (upd := (fun (s : Int32 × Int32) => [(4, .int s.2), (3, .int s.1), (0, va_rf (some this)), (1, .int above_), (2, .int below_)])) (s := (s18, (s3.2 + 1))) [0, 1, 2, 3, 4] rfl))) fun _ mm a b h => S_goto X dX2_entriesBetween_40 (by decide) [] mm a b h))) fun s19 =>
  (SB_retI X C hr dX2_entriesBetween_44 (L_iload_n (x := s19.1) 1 X dX2_entriesBetween_43 rfl rfl))))) h (by rw [hR]; decide) (by rw [hR]; decide)
theorem dX2_entriesAbove_0 : decode cX2_entriesAbove 0 = .ok (.aload_n 0, 1) := by decide +kernel
theorem dX2_entriesAbove_1 : decode cX2_entriesAbove 1 = .ok (.iload_n 1, 1) := by decide +kernel
theorem dX2_entriesAbove_2 : decode cX2_entriesAbove 2 = .ok (.aload_n 0, 1) := by decide +kernel
theorem dX2_entriesAbove_3 : decode cX2_entriesAbove 3 = .ok (.getfield 15, 3) := by decide +kernel
theorem dX2_entriesAbove_6 : decode cX2_entriesAbove 6 = .ok (.iconst 1, 1) := by decide +kernel
theorem dX2_entriesAbove_7 : decode cX2_entriesAbove 7 = .ok (.iadd, 1) := by decide +kernel
theorem dX2_entriesAbove_8 : decode cX2_entriesAbove 8 = .ok (.invokevirtual 19, 3) := by decide +kernel
theorem dX2_entriesAbove_11 : decode cX2_entriesAbove 11 = .ok (.ireturn, 1) := by decide +kernel
theorem lk_X2_entriesAbove : LK yX2_entriesAbove cX2_entriesAbove 2 (some .int) 1 := ⟨qW_at 358 (by decide +kernel) rfl, qW_at 31 (by decide +kernel) rfl, by decide, by decide, by decide +kernel⟩
theorem im_X2_entriesAbove : Cond.instanceMethod yX2_entriesAbove ∈ qW := qW_at 356 (by decide +kernel) rfl
theorem se_X2_entriesAbove : Cond.selects RX2 yX2_entriesAbove yX2_entriesAbove ∈ qW := qW_at 357 (by decide +kernel) rfl
def F_X2_entriesAbove (this : Nat) (asked_ : Int32) : QX Int32 :=
  (xb (xp (some this)) fun v4 => xb (xp asked_) fun v5 => xb (xb (xb (xp (some this)) fun v1 => xgi 3 0 v1) fun v2 => xb (xp (1 : Int32)) fun v3 => (xp (v2 + v3))) fun v6 => xo 3 v4 fun q => F_X2_entriesBetween q v5 v6)
set_option maxRecDepth 100000 in
set_option maxHeartbeats 4000000 in
theorem M_X2_entriesAbove (this : Nat) (asked_ : Int32) : MM yX2_entriesAbove cX2_entriesAbove 2 (some .int) 1 24 0 0 encI [.ref this, .int asked_] (F_X2_entriesAbove this asked_) := by
  refine MM_of (env0 := [(0, va_rf (some this)), (1, .int asked_)]) (by decide) (by exact Nat.le_of_ble_eq_true rfl) (by rfl) (fun k mm res X C hR hN hr hname h => ?_)
  have X : CX k cX2_entriesAbove RX2 := X
  have hT : TH k (fun e m' => res = (.error e, m')) := TH_of C
  have htr := C.2.2.2.1
  unfold F_X2_entriesAbove at h
  exact SB_go (T := fun e m' => res = (.error e, m')) (RET := fun v m' => res = (.ok v, m')) (SB_retI X C hr dX2_entriesAbove_11 (XE_3 (pB := pI) wR wI (L_aload_n (r := (some this)) 0 X dX2_entriesAbove_0 rfl rfl) (L_iload_n (x := asked_) 1 X dX2_entriesAbove_1 rfl rfl) (XE_2 wI (XE_1 (L_aload_n (r := (some this)) 0 X dX2_entriesAbove_2 rfl rfl) (O_gi (c := 3) (j := 0) X rfl inW2 (by decide) fl_X2_15 rfl dX2_entriesAbove_3)) (L_iconst (v := 1) X dX2_entriesAbove_6 (by decide)) (O_iadd X dX2_entriesAbove_7)) (fun v0 v1 v2 st mm a b hd hc hs h => g_callVo (st := st) (cI := 3) X hT htr rfl (fun q => M_X2_entriesBetween q v1 v2) lk_X2_entriesBetween im_X2_entriesBetween se_X2_entriesBetween ml_X2_19 rfl (by rw [hR]; exact ⟨Nat.le_of_ble_eq_true rfl, Nat.le_of_ble_eq_true rfl⟩) (Nat.le_trans hd (by decide)) ⟨hc, hs⟩ dX2_entriesAbove_8 h))) h (by rw [hR]; decide) (by rw [hR]; decide)
theorem dX2_forget_0 : decode cX2_forget 0 = .ok (.iload_n 1, 1) := by decide +kernel
theorem dX2_forget_1 : decode cX2_forget 1 = .ok (.ifCond .lt 26, 3) := by decide +kernel
theorem dX2_forget_4 : decode cX2_forget 4 = .ok (.iload_n 1, 1) := by decide +kernel
theorem dX2_forget_5 : decode cX2_forget 5 = .ok (.bipush 8, 2) := by decide +kernel
theorem dX2_forget_7 : decode cX2_forget 7 = .ok (.if_icmp .ge 20, 3) := by decide +kernel
theorem dX2_forget_10 : decode cX2_forget 10 = .ok (.aload_n 0, 1) := by decide +kernel
theorem dX2_forget_11 : decode cX2_forget 11 = .ok (.aload_n 0, 1) := by decide +kernel
theorem dX2_forget_12 : decode cX2_forget 12 = .ok (.getfield 9, 3) := by decide +kernel
theorem dX2_forget_15 : decode cX2_forget 15 = .ok (.iload_n 1, 1) := by decide +kernel
theorem dX2_forget_16 : decode cX2_forget 16 = .ok (.iaload, 1) := by decide +kernel
theorem dX2_forget_17 : decode cX2_forget 17 = .ok (.putfield 23, 3) := by decide +kernel
theorem dX2_forget_20 : decode cX2_forget 20 = .ok (.aload_n 0, 1) := by decide +kernel
theorem dX2_forget_21 : decode cX2_forget 21 = .ok (.getfield 9, 3) := by decide +kernel
theorem dX2_forget_24 : decode cX2_forget 24 = .ok (.iload_n 1, 1) := by decide +kernel
theorem dX2_forget_25 : decode cX2_forget 25 = .ok (.iconst 0, 1) := by decide +kernel
theorem dX2_forget_26 : decode cX2_forget 26 = .ok (.iastore, 1) := by decide +kernel
theorem dX2_forget_27 : decode cX2_forget 27 = .ok (.return_, 1) := by decide +kernel
theorem lk_X2_forget : LK yX2_forget cX2_forget 2 none 1 := ⟨qW_at 634 (by decide +kernel) rfl, qW_at 31 (by decide +kernel) rfl, by decide, by decide, by decide +kernel⟩
theorem im_X2_forget : Cond.instanceMethod yX2_forget ∈ qW := qW_at 632 (by decide +kernel) rfl
theorem se_X2_forget : Cond.selects RX2 yX2_forget yX2_forget ∈ qW := qW_at 633 (by decide +kernel) rfl
def F_X2_forget (this : Nat) (number_ : Int32) : QX Unit :=
  (xb (xb (xb (xb (xp number_) fun v1 => xp (decide (0 ≤ v1))) fun v4 => if v4 then (xb (xp number_) fun v2 => xb (xp (8 : Int32)) fun v3 => xp (decide (v2 < v3))) else xp false) fun v14 => if v14 then (xb (xb (xp (some this)) fun v8 => xb (xb (xb (xp (some this)) fun v5 => xgr 3 2 v5) fun v6 => xb (xp number_) fun v7 => xai 0 v6 v7) fun v9 => xsi 3 1 v8 v9) fun _ =>
  (xb (xb (xb (xp (some this)) fun v10 => xgr 3 2 v10) fun v11 => xb (xp number_) fun v12 => xb (xp (0 : Int32)) fun v13 => xsai v11 v12 v13) fun _ =>
  (xp ()))) else (xp ())) fun s15 =>
  (xp ()))
set_option maxRecDepth 100000 in
set_option maxHeartbeats 4000000 in
theorem M_X2_forget (this : Nat) (number_ : Int32) : MM yX2_forget cX2_forget 2 none 0 0 0 0 encU [.ref this, .int number_] (F_X2_forget this number_) := by
  refine MM_of (env0 := [(0, va_rf (some this)), (1, .int number_)]) (by decide) (by exact Nat.le_of_ble_eq_true rfl) (by rfl) (fun k mm res X C hR hN hr hname h => ?_)
  have X : CX k cX2_forget RX2 := X
  have hT : TH k (fun e m' => res = (.error e, m')) := TH_of C
  have htr := C.2.2.2.1
  unfold F_X2_forget at h
  exact SB_go (T := fun e m' => res = (.error e, m')) (RET := fun v m' => res = (.ok v, m')) (SB_seq (ST_if (CE_and (CE_1 (L_iload_n (x := number_) 1 X dX2_forget_0 rfl rfl) (Z_ge_F X dX2_forget_1 (by decide))) (CE_2 wI (L_iload_n (x := number_) 1 X dX2_forget_4 rfl rfl) (L_bipush (v := (8)) X dX2_forget_5 (by decide)) (C_lt_F X dX2_forget_7 (by decide))))
  (ST_do (XE_2 wR (L_aload_n (r := (some this)) 0 X dX2_forget_10 rfl rfl) (XE_2 wR (XE_1 (L_aload_n (r := (some this)) 0 X dX2_forget_11 rfl rfl) (O_gr (c := 3) (j := 2) X rfl inW2 (by decide) fl_X2_9 rfl dX2_forget_12)) (L_iload_n (x := number_) 1 X dX2_forget_15 rfl rfl) (O_ai X dX2_forget_16)) (O_si (c := 3) (j := 1) tyX2 X rfl inW2 tyX2_ok nmX2 (by decide) fl_X2_23 (Or.inl rfl) rfl (by decide +kernel) dX2_forget_17))
  (ST_do (XE_3 wR wI (XE_1 (L_aload_n (r := (some this)) 0 X dX2_forget_20 rfl rfl) (O_gr (c := 3) (j := 2) X rfl inW2 (by decide) fl_X2_9 rfl dX2_forget_21)) (L_iload_n (x := number_) 1 X dX2_forget_24 rfl rfl) (L_iconst (v := 0) X dX2_forget_25 (by decide)) (O_sai X dX2_forget_26))
  (ST_done (upd := (fun (s : Unit) => [(0, va_rf (some this)), (1, .int number_)])) (s := ()) [0, 1] rfl)))
  (ST_done (upd := (fun (s : Unit) => [(0, va_rf (some this)), (1, .int number_)])) (s := ()) [0, 1] rfl)) fun s15 =>
  (SB_retU X C hr dX2_forget_27)) h (by rw [hR]; decide) (by rw [hR]; decide)
theorem dX2_init_0 : decode cX2_init 0 = .ok (.aload_n 0, 1) := by decide +kernel
theorem dX2_init_1 : decode cX2_init 1 = .ok (.invokespecial 3, 3) := by decide +kernel
theorem dX2_init_4 : decode cX2_init 4 = .ok (.aload_n 0, 1) := by decide +kernel
theorem dX2_init_5 : decode cX2_init 5 = .ok (.bipush 8, 2) := by decide +kernel
theorem dX2_init_7 : decode cX2_init 7 = .ok (.newarray .int, 2) := by decide +kernel
theorem dX2_init_9 : decode cX2_init 9 = .ok (.putfield 9, 3) := by decide +kernel
theorem dX2_init_12 : decode cX2_init 12 = .ok (.return_, 1) := by decide +kernel
theorem lk_X2_init : LK yX2_init cX2_init 1 none 0 := ⟨qW_at 94 (by decide +kernel) rfl, qW_at 31 (by decide +kernel) rfl, by decide, by decide, by decide +kernel⟩
theorem im_X2_init : Cond.instanceMethod yX2_init ∈ qW := qW_at 93 (by decide +kernel) rfl
def F_X2_init (this : Nat) : QX Unit :=
  (xb (xb (xp (some this)) fun v2 => xb (xb (xp (8 : Int32)) fun v1 => xnewi 0 v1 8) fun v3 => xsr 3 2 v2 v3) fun _ =>
  (xp ()))
set_option maxRecDepth 100000 in
set_option maxHeartbeats 4000000 in
theorem M_X2_init (this : Nat) : MM yX2_init cX2_init 1 none 1 12 1 8 encU [.ref this] (F_X2_init this) := by
  refine MM_of (env0 := [(0, va_rf (some this))]) (by decide) (by exact Nat.le_of_ble_eq_true rfl) (by rfl) (fun k mm res X C hR hN hr hname h => ?_)
  have X : CX k cX2_init RX2 := X
  have hT : TH k (fun e m' => res = (.error e, m')) := TH_of C
  have htr := C.2.2.2.1
  unfold F_X2_init at h
  exact SB_go (T := fun e m' => res = (.error e, m')) (RET := fun v m' => res = (.ok v, m')) (SB_pre (env' := [(0, va_rf (some this))]) (S_super (j := 0) X dX2_init_0 rfl dX2_init_1 rfl ml_X2_3 oi_in oi_co (by rw [hR]; exact Nat.le_of_ble_eq_true rfl) (by rw [hR]; exact Nat.le_of_ble_eq_true rfl))
  (SB_do (XE_2 wR (L_aload_n (r := (some this)) 0 X dX2_init_4 rfl rfl) (XE_1 (L_bipush (v := (8)) X dX2_init_5 (by decide)) (O_newi0 (cap := 8) X ac_int (by decide) dX2_init_7)) (O_sr (c := 3) (j := 2) tyX2 X rfl inW2 tyX2_ok nmX2 (by decide) fl_X2_9 (Or.inr ⟨hname, rfl, rfl⟩) rfl (by decide +kernel : parseFieldDescriptor (TX2 2).2.2.1 = some (.array .int)) (Or.inr ⟨_, rfl⟩) dX2_init_9))
  (SB_retU X C hr dX2_init_12))) h (by rw [hR]; decide) (by rw [hR]; decide)
theorem dX1_init_0 : decode cX1_init 0 = .ok (.aload_n 0, 1) := by decide +kernel
theorem dX1_init_1 : decode cX1_init 1 = .ok (.invokespecial 3, 3) := by decide +kernel
theorem dX1_init_4 : decode cX1_init 4 = .ok (.aload_n 0, 1) := by decide +kernel
theorem dX1_init_5 : decode cX1_init 5 = .ok (.iconst (-1), 1) := by decide +kernel
theorem dX1_init_6 : decode cX1_init 6 = .ok (.putfield 9, 3) := by decide +kernel
theorem dX1_init_9 : decode cX1_init 9 = .ok (.aload_n 0, 1) := by decide +kernel
theorem dX1_init_10 : decode cX1_init 10 = .ok (.iconst (-1), 1) := by decide +kernel
theorem dX1_init_11 : decode cX1_init 11 = .ok (.putfield 15, 3) := by decide +kernel
theorem dX1_init_14 : decode cX1_init 14 = .ok (.aload_n 0, 1) := by decide +kernel
theorem dX1_init_15 : decode cX1_init 15 = .ok (.iconst 0, 1) := by decide +kernel
theorem dX1_init_16 : decode cX1_init 16 = .ok (.putfield 18, 3) := by decide +kernel
theorem dX1_init_19 : decode cX1_init 19 = .ok (.aload_n 0, 1) := by decide +kernel
theorem dX1_init_20 : decode cX1_init 20 = .ok (.iconst (-1), 1) := by decide +kernel
theorem dX1_init_21 : decode cX1_init 21 = .ok (.putfield 21, 3) := by decide +kernel
theorem dX1_init_24 : decode cX1_init 24 = .ok (.aload_n 0, 1) := by decide +kernel
theorem dX1_init_25 : decode cX1_init 25 = .ok (.iload_n 1, 1) := by decide +kernel
theorem dX1_init_26 : decode cX1_init 26 = .ok (.putfield 24, 3) := by decide +kernel
theorem dX1_init_29 : decode cX1_init 29 = .ok (.aload_n 0, 1) := by decide +kernel
theorem dX1_init_30 : decode cX1_init 30 = .ok (.aload_n 2, 1) := by decide +kernel
theorem dX1_init_31 : decode cX1_init 31 = .ok (.putfield 27, 3) := by decide +kernel
theorem dX1_init_34 : decode cX1_init 34 = .ok (.aload_n 0, 1) := by decide +kernel
theorem dX1_init_35 : decode cX1_init 35 = .ok (.iload_n 3, 1) := by decide +kernel
theorem dX1_init_36 : decode cX1_init 36 = .ok (.putfield 31, 3) := by decide +kernel
theorem dX1_init_39 : decode cX1_init 39 = .ok (.aload_n 0, 1) := by decide +kernel
theorem dX1_init_40 : decode cX1_init 40 = .ok (.iload 4, 2) := by decide +kernel
theorem dX1_init_42 : decode cX1_init 42 = .ok (.putfield 34, 3) := by decide +kernel
theorem dX1_init_45 : decode cX1_init 45 = .ok (.aload_n 0, 1) := by decide +kernel
theorem dX1_init_46 : decode cX1_init 46 = .ok (.aload 5, 2) := by decide +kernel
theorem dX1_init_48 : decode cX1_init 48 = .ok (.putfield 37, 3) := by decide +kernel
theorem dX1_init_51 : decode cX1_init 51 = .ok (.return_, 1) := by decide +kernel
theorem lk_X1_init : LK yX1_init cX1_init 6 none 5 := ⟨qW_at 1192 (by decide +kernel) rfl, qW_at 39 (by decide +kernel) rfl, by decide, by decide, by decide +kernel⟩
theorem im_X1_init : Cond.instanceMethod yX1_init ∈ qW := qW_at 1191 (by decide +kernel) rfl
def F_X1_init (this : Nat) (kind_ : Int32) (meeting_ : Option Nat) (sender_ : Int32) (receiver_ : Int32) (version_ : Option Nat) : QX Unit :=
  (xb (xb (xp (some this)) fun v1 => xb (xp (-1 : Int32)) fun v2 => xsi 2 5 v1 v2) fun _ =>
  (xb (xb (xp (some this)) fun v3 => xb (xp (-1 : Int32)) fun v4 => xsi 2 6 v3 v4) fun _ =>
  (xb (xb (xp (some this)) fun v5 => xb (xp (0 : Int32)) fun v6 => xsi 2 7 v5 v6) fun _ =>
  (xb (xb (xp (some this)) fun v7 => xb (xp (-1 : Int32)) fun v8 => xsi 2 8 v7 v8) fun _ =>
  (xb (xb (xp (some this)) fun v9 => xb (xp kind_) fun v10 => xsi 2 0 v9 v10) fun _ =>
  (xb (xb (xp (some this)) fun v11 => xb (xp meeting_) fun v12 => xsr 2 1 v11 v12) fun _ =>
  (xb (xb (xp (some this)) fun v13 => xb (xp sender_) fun v14 => xsi 2 2 v13 v14) fun _ =>
  (xb (xb (xp (some this)) fun v15 => xb (xp receiver_) fun v16 => xsi 2 3 v15 v16) fun _ =>
  (xb (xb (xp (some this)) fun v17 => xb (xp version_) fun v18 => xsr 2 4 v17 v18) fun _ =>
  (xp ()))))))))))
set_option maxRecDepth 100000 in
set_option maxHeartbeats 4000000 in
theorem M_X1_init (this : Nat) (kind_ : Int32) (meeting_ : Option Nat) (sender_ : Int32) (receiver_ : Int32) (version_ : Option Nat) : MM yX1_init cX1_init 6 none 1 12 0 0 encU [.ref this, .int kind_, va_rf meeting_, .int sender_, .int receiver_, va_rf version_] (F_X1_init this kind_ meeting_ sender_ receiver_ version_) := by
  refine MM_of (env0 := [(0, va_rf (some this)), (1, .int kind_), (2, va_rf meeting_), (3, .int sender_), (4, .int receiver_), (5, va_rf version_)]) (by decide) (by cases meeting_ <;> cases version_ <;> exact Nat.le_of_ble_eq_true rfl) (by cases meeting_ <;> cases version_ <;> rfl) (fun k mm res X C hR hN hr hname h => ?_)
  have X : CX k cX1_init RX1 := X
  have hT : TH k (fun e m' => res = (.error e, m')) := TH_of C
  have htr := C.2.2.2.1
  unfold F_X1_init at h
  exact SB_go (T := fun e m' => res = (.error e, m')) (RET := fun v m' => res = (.ok v, m')) (SB_pre (env' := [(0, va_rf (some this)), (1, .int kind_), (2, va_rf meeting_), (3, .int sender_), (4, .int receiver_), (5, va_rf version_)]) (S_super (j := 0) X dX1_init_0 rfl dX1_init_1 rfl ml_X1_3 oi_in oi_co (by rw [hR]; exact Nat.le_of_ble_eq_true rfl) (by rw [hR]; exact Nat.le_of_ble_eq_true rfl))
  (SB_do (XE_2 wR (L_aload_n (r := (some this)) 0 X dX1_init_4 rfl rfl) (L_iconst (v := (-1)) X dX1_init_5 (by decide)) (O_si (c := 2) (j := 5) tyX1 X rfl inW1 tyX1_ok nmX1 (by decide) fl_X1_9 (Or.inl rfl) rfl (by decide +kernel) dX1_init_6))
  (SB_do (XE_2 wR (L_aload_n (r := (some this)) 0 X dX1_init_9 rfl rfl) (L_iconst (v := (-1)) X dX1_init_10 (by decide)) (O_si (c := 2) (j := 6) tyX1 X rfl inW1 tyX1_ok nmX1 (by decide) fl_X1_15 (Or.inl rfl) rfl (by decide +kernel) dX1_init_11))
  (SB_do (XE_2 wR (L_aload_n (r := (some this)) 0 X dX1_init_14 rfl rfl) (L_iconst (v := 0) X dX1_init_15 (by decide)) (O_si (c := 2) (j := 7) tyX1 X rfl inW1 tyX1_ok nmX1 (by decide) fl_X1_18 (Or.inl rfl) rfl (by decide +kernel) dX1_init_16))
  (SB_do (XE_2 wR (L_aload_n (r := (some this)) 0 X dX1_init_19 rfl rfl) (L_iconst (v := (-1)) X dX1_init_20 (by decide)) (O_si (c := 2) (j := 8) tyX1 X rfl inW1 tyX1_ok nmX1 (by decide) fl_X1_21 (Or.inl rfl) rfl (by decide +kernel) dX1_init_21))
  (SB_do (XE_2 wR (L_aload_n (r := (some this)) 0 X dX1_init_24 rfl rfl) (L_iload_n (x := kind_) 1 X dX1_init_25 rfl rfl) (O_si (c := 2) (j := 0) tyX1 X rfl inW1 tyX1_ok nmX1 (by decide) fl_X1_24 (Or.inr ⟨hname, rfl, rfl⟩) rfl (by decide +kernel) dX1_init_26))
  (SB_do (XE_2 wR (L_aload_n (r := (some this)) 0 X dX1_init_29 rfl rfl) (L_aload_n (r := meeting_) 2 X dX1_init_30 rfl rfl) (O_sr (c := 2) (j := 1) tyX1 X rfl inW1 tyX1_ok nmX1 (by decide) fl_X1_27 (Or.inr ⟨hname, rfl, rfl⟩) rfl (by decide +kernel : parseFieldDescriptor (TX1 1).2.2.1 = some (.object "MeetingServer$Meeting")) (Or.inl ⟨_, rfl⟩) dX1_init_31))
  (SB_do (XE_2 wR (L_aload_n (r := (some this)) 0 X dX1_init_34 rfl rfl) (L_iload_n (x := sender_) 3 X dX1_init_35 rfl rfl) (O_si (c := 2) (j := 2) tyX1 X rfl inW1 tyX1_ok nmX1 (by decide) fl_X1_31 (Or.inr ⟨hname, rfl, rfl⟩) rfl (by decide +kernel) dX1_init_36))
  (SB_do (XE_2 wR (L_aload_n (r := (some this)) 0 X dX1_init_39 rfl rfl) (L_iload (x := receiver_) 4 X dX1_init_40 rfl) (O_si (c := 2) (j := 3) tyX1 X rfl inW1 tyX1_ok nmX1 (by decide) fl_X1_34 (Or.inr ⟨hname, rfl, rfl⟩) rfl (by decide +kernel) dX1_init_42))
  (SB_do (XE_2 wR (L_aload_n (r := (some this)) 0 X dX1_init_45 rfl rfl) (L_aload (r := version_) 5 X dX1_init_46 rfl) (O_sr (c := 2) (j := 4) tyX1 X rfl inW1 tyX1_ok nmX1 (by decide) fl_X1_37 (Or.inr ⟨hname, rfl, rfl⟩) rfl (by decide +kernel : parseFieldDescriptor (TX1 4).2.2.1 = some (.object "MeetingServer$Version")) (Or.inl ⟨_, rfl⟩) dX1_init_48))
  (SB_retU X C hr dX1_init_51))))))))))) h (by rw [hR]; decide) (by rw [hR]; decide)
theorem dX1_isNewerThan_0 : decode cX1_isNewerThan 0 = .ok (.aload_n 1, 1) := by decide +kernel
theorem dX1_isNewerThan_1 : decode cX1_isNewerThan 1 = .ok (.ifnull 20, 3) := by decide +kernel
theorem dX1_isNewerThan_4 : decode cX1_isNewerThan 4 = .ok (.aload_n 0, 1) := by decide +kernel
theorem dX1_isNewerThan_5 : decode cX1_isNewerThan 5 = .ok (.getfield 37, 3) := by decide +kernel
theorem dX1_isNewerThan_8 : decode cX1_isNewerThan 8 = .ok (.getfield 41, 3) := by decide +kernel
theorem dX1_isNewerThan_11 : decode cX1_isNewerThan 11 = .ok (.aload_n 1, 1) := by decide +kernel
theorem dX1_isNewerThan_12 : decode cX1_isNewerThan 12 = .ok (.getfield 37, 3) := by decide +kernel
theorem dX1_isNewerThan_15 : decode cX1_isNewerThan 15 = .ok (.getfield 41, 3) := by decide +kernel
theorem dX1_isNewerThan_18 : decode cX1_isNewerThan 18 = .ok (.if_icmp .eq 30, 3) := by decide +kernel
theorem dX1_isNewerThan_21 : decode cX1_isNewerThan 21 = .ok (.aload_n 1, 1) := by decide +kernel
theorem dX1_isNewerThan_22 : decode cX1_isNewerThan 22 = .ok (.ifnull 20, 3) := by decide +kernel
theorem dX1_isNewerThan_25 : decode cX1_isNewerThan 25 = .ok (.aload_n 0, 1) := by decide +kernel
theorem dX1_isNewerThan_26 : decode cX1_isNewerThan 26 = .ok (.getfield 37, 3) := by decide +kernel
theorem dX1_isNewerThan_29 : decode cX1_isNewerThan 29 = .ok (.getfield 41, 3) := by decide +kernel
theorem dX1_isNewerThan_32 : decode cX1_isNewerThan 32 = .ok (.aload_n 1, 1) := by decide +kernel
theorem dX1_isNewerThan_33 : decode cX1_isNewerThan 33 = .ok (.getfield 37, 3) := by decide +kernel
theorem dX1_isNewerThan_36 : decode cX1_isNewerThan 36 = .ok (.getfield 41, 3) := by decide +kernel
theorem dX1_isNewerThan_39 : decode cX1_isNewerThan 39 = .ok (.if_icmp .le 7, 3) := by decide +kernel
theorem dX1_isNewerThan_42 : decode cX1_isNewerThan 42 = .ok (.iconst 1, 1) := by decide +kernel
theorem dX1_isNewerThan_43 : decode cX1_isNewerThan 43 = .ok (.goto 4, 3) := by decide +kernel
theorem dX1_isNewerThan_46 : decode cX1_isNewerThan 46 = .ok (.iconst 0, 1) := by decide +kernel
theorem dX1_isNewerThan_47 : decode cX1_isNewerThan 47 = .ok (.ireturn, 1) := by decide +kernel
theorem dX1_isNewerThan_48 : decode cX1_isNewerThan 48 = .ok (.aload_n 0, 1) := by decide +kernel
theorem dX1_isNewerThan_49 : decode cX1_isNewerThan 49 = .ok (.getfield 46, 3) := by decide +kernel
theorem dX1_isNewerThan_52 : decode cX1_isNewerThan 52 = .ok (.aload_n 1, 1) := by decide +kernel
theorem dX1_isNewerThan_53 : decode cX1_isNewerThan 53 = .ok (.getfield 46, 3) := by decide +kernel
theorem dX1_isNewerThan_56 : decode cX1_isNewerThan 56 = .ok (.if_icmp .le 7, 3) := by decide +kernel
theorem dX1_isNewerThan_59 : decode cX1_isNewerThan 59 = .ok (.iconst 1, 1) := by decide +kernel
theorem dX1_isNewerThan_60 : decode cX1_isNewerThan 60 = .ok (.goto 4, 3) := by decide +kernel
theorem dX1_isNewerThan_63 : decode cX1_isNewerThan 63 = .ok (.iconst 0, 1) := by decide +kernel
theorem dX1_isNewerThan_64 : decode cX1_isNewerThan 64 = .ok (.ireturn, 1) := by decide +kernel
theorem lk_X1_isNewerThan : LK yX1_isNewerThan cX1_isNewerThan 2 (some .boolean) 1 := ⟨qW_at 293 (by decide +kernel) rfl, qW_at 39 (by decide +kernel) rfl, by decide, by decide, by decide +kernel⟩
theorem im_X1_isNewerThan : Cond.instanceMethod yX1_isNewerThan ∈ qW := qW_at 291 (by decide +kernel) rfl
theorem se_X1_isNewerThan : Cond.selects RX1 yX1_isNewerThan yX1_isNewerThan ∈ qW := qW_at 292 (by decide +kernel) rfl
def F_X1_isNewerThan (this : Nat) (reply_ : Option Nat) : QX Int32 :=
  (xb (xb (xb (xp reply_) fun v1 => xp (decide (v1 = none))) fun v8 => if v8 then xp true else (xb (xb (xb (xp (some this)) fun v2 => xgr 2 4 v2) fun v3 => xgi 5 0 v3) fun v4 => xb (xb (xb (xp reply_) fun v5 => xgr 2 4 v5) fun v6 => xgi 5 0 v6) fun v7 => xp (decide (¬ v4 = v7)))) fun v23 => if v23 then (xb (xb (xb (xb (xp reply_) fun v9 => xp (decide (v9 = none))) fun v16 => if v16 then xp true else (xb (xb (xb (xp (some this)) fun v10 => xgr 2 4 v10) fun v11 => xgi 5 0 v11) fun v12 => xb (xb (xb (xp reply_) fun v13 => xgr 2 4 v13) fun v14 => xgi 5 0 v14) fun v15 => xp (decide (v15 < v12)))) fun v17 => xp (b2i v17)) xz) else
  (xb (xb (xb (xb (xp (some this)) fun v18 => xgi 2 9 v18) fun v19 => xb (xb (xp reply_) fun v20 => xgi 2 9 v20) fun v21 => xp (decide (v21 < v19))) fun v22 => xp (b2i v22)) xz))
set_option maxRecDepth 100000 in
set_option maxHeartbeats 4000000 in
theorem M_X1_isNewerThan (this : Nat) (reply_ : Option Nat) : MM yX1_isNewerThan cX1_isNewerThan 2 (some .boolean) 0 0 0 0 encI [.ref this, va_rf reply_] (F_X1_isNewerThan this reply_) := by
  refine MM_of (env0 := [(0, va_rf (some this)), (1, va_rf reply_)]) (by decide) (by cases reply_ <;> exact Nat.le_of_ble_eq_true rfl) (by cases reply_ <;> rfl) (fun k mm res X C hR hN hr hname h => ?_)
  have X : CX k cX1_isNewerThan RX1 := X
  have hT : TH k (fun e m' => res = (.error e, m')) := TH_of C
  have htr := C.2.2.2.1
  unfold F_X1_isNewerThan at h
  exact SB_go (T := fun e m' => res = (.error e, m')) (RET := fun v m' => res = (.ok v, m')) (SB_if (CE_or (CE_1 (L_aload_n (r := reply_) 1 X dX1_isNewerThan_0 rfl rfl) (N_eq_T X dX1_isNewerThan_1 (by decide))) (CE_2 wI (XE_1 (XE_1 (L_aload_n (r := (some this)) 0 X dX1_isNewerThan_4 rfl rfl) (O_gr (c := 2) (j := 4) X rfl inW1 (by decide) fl_X1_37 rfl dX1_isNewerThan_5)) (O_gi (c := 5) (j := 0) X rfl inW4 (by decide) fl_X1_41 rfl dX1_isNewerThan_8)) (XE_1 (XE_1 (L_aload_n (r := reply_) 1 X dX1_isNewerThan_11 rfl rfl) (O_gr (c := 2) (j := 4) X rfl inW1 (by decide) fl_X1_37 rfl dX1_isNewerThan_12)) (O_gi (c := 5) (j := 0) X rfl inW4 (by decide) fl_X1_41 rfl dX1_isNewerThan_15)) (C_ne_F X dX1_isNewerThan_18 (by decide))))
  (SB_retZ X C hr dX1_isNewerThan_47 (XE_b2i (CE_or (CE_1 (L_aload_n (r := reply_) 1 X dX1_isNewerThan_21 rfl rfl) (N_eq_T X dX1_isNewerThan_22 (by decide))) (CE_2 wI (XE_1 (XE_1 (L_aload_n (r := (some this)) 0 X dX1_isNewerThan_25 rfl rfl) (O_gr (c := 2) (j := 4) X rfl inW1 (by decide) fl_X1_37 rfl dX1_isNewerThan_26)) (O_gi (c := 5) (j := 0) X rfl inW4 (by decide) fl_X1_41 rfl dX1_isNewerThan_29)) (XE_1 (XE_1 (L_aload_n (r := reply_) 1 X dX1_isNewerThan_32 rfl rfl) (O_gr (c := 2) (j := 4) X rfl inW1 (by decide) fl_X1_37 rfl dX1_isNewerThan_33)) (O_gi (c := 5) (j := 0) X rfl inW4 (by decide) fl_X1_41 rfl dX1_isNewerThan_36)) (C_gt_F X dX1_isNewerThan_39 (by decide)))) (S_b1 X dX1_isNewerThan_42 dX1_isNewerThan_43 (by decide)) (S_b0 X dX1_isNewerThan_46)))
  (SB_retZ X C hr dX1_isNewerThan_64 (XE_b2i (CE_2 wI (XE_1 (L_aload_n (r := (some this)) 0 X dX1_isNewerThan_48 rfl rfl) (O_gi (c := 2) (j := 9) X rfl inW1 (by decide) fl_X1_46 rfl dX1_isNewerThan_49)) (XE_1 (L_aload_n (r := reply_) 1 X dX1_isNewerThan_52 rfl rfl) (O_gi (c := 2) (j := 9) X rfl inW1 (by decide) fl_X1_46 rfl dX1_isNewerThan_53)) (C_gt_F X dX1_isNewerThan_56 (by decide))) (S_b1 X dX1_isNewerThan_59 dX1_isNewerThan_60 (by decide)) (S_b0 X dX1_isNewerThan_63)))) h (by rw [hR]; decide) (by rw [hR]; decide)
theorem dX1_delegateBy_0 : decode cX1_delegateBy 0 = .ok (.aload_n 0, 1) := by decide +kernel
theorem dX1_delegateBy_1 : decode cX1_delegateBy 1 = .ok (.ifnonnull 7, 3) := by decide +kernel
theorem dX1_delegateBy_4 : decode cX1_delegateBy 4 = .ok (.iconst (-1), 1) := by decide +kernel
theorem dX1_delegateBy_5 : decode cX1_delegateBy 5 = .ok (.goto 7, 3) := by decide +kernel
theorem dX1_delegateBy_8 : decode cX1_delegateBy 8 = .ok (.aload_n 0, 1) := by decide +kernel
theorem dX1_delegateBy_9 : decode cX1_delegateBy 9 = .ok (.getfield 21, 3) := by decide +kernel
theorem dX1_delegateBy_12 : decode cX1_delegateBy 12 = .ok (.ireturn, 1) := by decide +kernel
theorem lk_X1_delegateBy : LK yX1_delegateBy cX1_delegateBy 1 (some .int) 1 := ⟨qW_at 504 (by decide +kernel) rfl, qW_at 39 (by decide +kernel) rfl, by decide, by decide, by decide +kernel⟩
theorem st_X1_delegateBy : Cond.static yX1_delegateBy ∈ qW := qW_at 503 (by decide +kernel) rfl
def F_X1_delegateBy (forAll_ : Option Nat) : QX Int32 :=
  (xb (xb (xp forAll_) fun v1 => xp (decide (v1 = none))) fun v3 => if v3 then (xp (-1 : Int32)) else (xb (xp forAll_) fun v2 => xgi 2 8 v2))
set_option maxRecDepth 100000 in
set_option maxHeartbeats 4000000 in
theorem M_X1_delegateBy (forAll_ : Option Nat) : MM yX1_delegateBy cX1_delegateBy 1 (some .int) 0 0 0 0 encI [va_rf forAll_] (F_X1_delegateBy forAll_) := by
  refine MM_of (env0 := [(0, va_rf forAll_)]) (by decide) (by cases forAll_ <;> exact Nat.le_of_ble_eq_true rfl) (by cases forAll_ <;> rfl) (fun k mm res X C hR hN hr hname h => ?_)
  have X : CX k cX1_delegateBy RX1 := X
  have hT : TH k (fun e m' => res = (.error e, m')) := TH_of C
  have htr := C.2.2.2.1
  unfold F_X1_delegateBy at h
  exact SB_go (T := fun e m' => res = (.error e, m')) (RET := fun v m' => res = (.ok v, m')) (SB_retI X C hr dX1_delegateBy_12 (XE_tern (CE_1 (L_aload_n (r := forAll_) 0 X dX1_delegateBy_0 rfl rfl) (N_eq_F X dX1_delegateBy_1 (by decide))) (L_iconst (v := (-1)) X dX1_delegateBy_4 (by decide)) (S_goto X dX1_delegateBy_5 (by decide)) (XE_1 (L_aload_n (r := forAll_) 0 X dX1_delegateBy_8 rfl rfl) (O_gi (c := 2) (j := 8) X rfl inW1 (by decide) fl_X1_21 rfl dX1_delegateBy_9)))) h (by rw [hR]; decide) (by rw [hR]; decide)
theorem dX1_answerBy_0 : decode cX1_answerBy 0 = .ok (.aconst_null, 1) := by decide +kernel
theorem dX1_answerBy_1 : decode cX1_answerBy 1 = .ok (.astore_n 3, 1) := by decide +kernel
theorem dX1_answerBy_2 : decode cX1_answerBy 2 = .ok (.aload_n 0, 1) := by decide +kernel
theorem dX1_answerBy_3 : decode cX1_answerBy 3 = .ok (.ifnull 16, 3) := by decide +kernel
theorem dX1_answerBy_6 : decode cX1_answerBy 6 = .ok (.aload_n 0, 1) := by decide +kernel
theorem dX1_answerBy_7 : decode cX1_answerBy 7 = .ok (.getfield 37, 3) := by decide +kernel
theorem dX1_answerBy_10 : decode cX1_answerBy 10 = .ok (.getfield 41, 3) := by decide +kernel
theorem dX1_answerBy_13 : decode cX1_answerBy 13 = .ok (.iload_n 2, 1) := by decide +kernel
theorem dX1_answerBy_14 : decode cX1_answerBy 14 = .ok (.if_icmp .lt 5, 3) := by decide +kernel
theorem dX1_answerBy_17 : decode cX1_answerBy 17 = .ok (.aload_n 0, 1) := by decide +kernel
theorem dX1_answerBy_18 : decode cX1_answerBy 18 = .ok (.astore_n 3, 1) := by decide +kernel
theorem dX1_answerBy_19 : decode cX1_answerBy 19 = .ok (.aload_n 1, 1) := by decide +kernel
theorem dX1_answerBy_20 : decode cX1_answerBy 20 = .ok (.ifnull 24, 3) := by decide +kernel
theorem dX1_answerBy_23 : decode cX1_answerBy 23 = .ok (.aload_n 1, 1) := by decide +kernel
theorem dX1_answerBy_24 : decode cX1_answerBy 24 = .ok (.getfield 37, 3) := by decide +kernel
theorem dX1_answerBy_27 : decode cX1_answerBy 27 = .ok (.getfield 41, 3) := by decide +kernel
theorem dX1_answerBy_30 : decode cX1_answerBy 30 = .ok (.iload_n 2, 1) := by decide +kernel
theorem dX1_answerBy_31 : decode cX1_answerBy 31 = .ok (.if_icmp .lt 13, 3) := by decide +kernel
theorem dX1_answerBy_34 : decode cX1_answerBy 34 = .ok (.aload_n 1, 1) := by decide +kernel
theorem dX1_answerBy_35 : decode cX1_answerBy 35 = .ok (.aload_n 3, 1) := by decide +kernel
theorem dX1_answerBy_36 : decode cX1_answerBy 36 = .ok (.invokevirtual 49, 3) := by decide +kernel
theorem dX1_answerBy_39 : decode cX1_answerBy 39 = .ok (.ifCond .eq 5, 3) := by decide +kernel
theorem dX1_answerBy_42 : decode cX1_answerBy 42 = .ok (.aload_n 1, 1) := by decide +kernel
theorem dX1_answerBy_43 : decode cX1_answerBy 43 = .ok (.astore_n 3, 1) := by decide +kernel
theorem dX1_answerBy_44 : decode cX1_answerBy 44 = .ok (.aload_n 3, 1) := by decide +kernel
theorem dX1_answerBy_45 : decode cX1_answerBy 45 = .ok (.ifnonnull 7, 3) := by decide +kernel
theorem dX1_answerBy_48 : decode cX1_answerBy 48 = .ok (.iconst 0, 1) := by decide +kernel
theorem dX1_answerBy_49 : decode cX1_answerBy 49 = .ok (.goto 7, 3) := by decide +kernel
theorem dX1_answerBy_52 : decode cX1_answerBy 52 = .ok (.aload_n 3, 1) := by decide +kernel
theorem dX1_answerBy_53 : decode cX1_answerBy 53 = .ok (.getfield 18, 3) := by decide +kernel
theorem dX1_answerBy_56 : decode cX1_answerBy 56 = .ok (.ireturn, 1) := by decide +kernel
theorem lk_X1_answerBy : LK yX1_answerBy cX1_answerBy 4 (some .int) 3 := ⟨qW_at 289 (by decide +kernel) rfl, qW_at 39 (by decide +kernel) rfl, by decide, by decide, by decide +kernel⟩
theorem st_X1_answerBy : Cond.static yX1_answerBy ∈ qW := qW_at 288 (by decide +kernel) rfl
def F_X1_answerBy (forDay_ : Option Nat) (forAll_ : Option Nat) (stand_ : Int32) : QX Int32 :=
  (xb (xp none) fun told_1 =>
  (xb (xb (xb (xb (xp forDay_) fun v2 => xp (decide (¬ v2 = none))) fun v7 => if v7 then (xb (xb (xb (xp forDay_) fun v3 => xgr 2 4 v3) fun v4 => xgi 5 0 v4) fun v5 => xb (xp stand_) fun v6 => xp (decide (v6 ≤ v5))) else xp false) fun v9 => if v9 then (xb (xp forDay_) fun told_8 =>
  (xp told_8)) else (xp told_1)) fun s10 =>
  (xb (xb (xb (xb (xb (xp forAll_) fun v11 => xp (decide (¬ v11 = none))) fun v16 => if v16 then (xb (xb (xb (xp forAll_) fun v12 => xgr 2 4 v12) fun v13 => xgi 5 0 v13) fun v14 => xb (xp stand_) fun v15 => xp (decide (v15 ≤ v14))) else xp false) fun v20 => if v20 then (xb (xb (xp forAll_) fun v17 => xb (xp s10) fun v18 => xo 2 v17 fun q => F_X1_isNewerThan q v18) fun v19 => xp (decide (¬ v19 = 0))) else xp false) fun v22 => if v22 then (xb (xp forAll_) fun told_21 =>
  (xp told_21)) else (xp s10)) fun s23 =>
  (xb (xb (xp s23) fun v24 => xp (decide (v24 = none))) fun v26 => if v26 then (xp (0 : Int32)) else (xb (xp s23) fun v25 => xgi 2 7 v25)))))
set_option maxRecDepth 100000 in
set_option maxHeartbeats 4000000 in
theorem M_X1_answerBy (forDay_ : Option Nat) (forAll_ : Option Nat) (stand_ : Int32) : MM yX1_answerBy cX1_answerBy 4 (some .int) 1 21 0 0 encI [va_rf forDay_, va_rf forAll_, .int stand_] (F_X1_answerBy forDay_ forAll_ stand_) := by
  refine MM_of (env0 := [(0, va_rf forDay_), (1, va_rf forAll_), (2, .int stand_)]) (by decide) (by cases forDay_ <;> cases forAll_ <;> exact Nat.le_of_ble_eq_true rfl) (by cases forDay_ <;> cases forAll_ <;> rfl) (fun k mm res X C hR hN hr hname h => ?_)
  have X : CX k cX1_answerBy RX1 := X
  have hT : TH k (fun e m' => res = (.error e, m')) := TH_of C
  have htr := C.2.2.2.1
  unfold F_X1_answerBy at h
  exact SB_go (T := fun e m' => res = (.error e, m')) (RET := fun v m' => res = (.ok v, m')) (SB_let (L_null X dX1_answerBy_0) (S_astore_n (ev := fun told_1 => [(3, va_rf told_1), (0, va_rf forDay_), (1, va_rf forAll_), (2, .int stand_)]) X dX1_answerBy_1 rfl (by rw [hN]; decide) (fun _ => rfl)) fun told_1 =>
  (SB_seq (ST_if (CE_and (CE_1 (L_aload_n (r := forDay_) 1 X dX1_answerBy_2 rfl rfl) (N_ne_F X dX1_answerBy_3 (by decide))) (CE_2 wI (XE_1 (XE_1 (L_aload_n (r := forDay_) 1 X dX1_answerBy_6 rfl rfl) (O_gr (c := 2) (j := 4) X rfl inW1 (by decide) fl_X1_37 rfl dX1_answerBy_7)) (O_gi (c := 5) (j := 0) X rfl inW4 (by decide) fl_X1_41 rfl dX1_answerBy_10)) (L_iload_n (x := stand_) 3 X dX1_answerBy_13 rfl rfl) (C_ge_F X dX1_answerBy_14 (by decide))))
  (ST_let (L_aload_n (r := forDay_) 1 X dX1_answerBy_17 rfl rfl) (S_astore_n (ev := fun told_8 => [(3, va_rf told_8), (0, va_rf forDay_), (1, va_rf forAll_), (2, .int stand_)]) X dX1_answerBy_18 rfl (by rw [hN]; decide) (fun _ => rfl)) fun told_8 =>
  (ST_done (upd := (fun (s : Option Nat) => [(3, va_rf s), (0, va_rf forDay_), (1, va_rf forAll_), (2, .int stand_)])) (s := told_8) [0, 1, 2, 3] rfl))
  (ST_done (upd := (fun (s : Option Nat) => [(3, va_rf s), (0, va_rf forDay_), (1, va_rf forAll_), (2, .int stand_)])) (s := told_1) [0, 1, 2, 3] rfl)) fun s10 =>
  (SB_seq (ST_if (CE_and (CE_and (CE_1 (L_aload_n (r := forAll_) 2 X dX1_answerBy_19 rfl rfl) (N_ne_F X dX1_answerBy_20 (by decide))) (CE_2 wI (XE_1 (XE_1 (L_aload_n (r := forAll_) 2 X dX1_answerBy_23 rfl rfl) (O_gr (c := 2) (j := 4) X rfl inW1 (by decide) fl_X1_37 rfl dX1_answerBy_24)) (O_gi (c := 5) (j := 0) X rfl inW4 (by decide) fl_X1_41 rfl dX1_answerBy_27)) (L_iload_n (x := stand_) 3 X dX1_answerBy_30 rfl rfl) (C_ge_F X dX1_answerBy_31 (by decide)))) (CE_1 (XE_2 (pB := pI) wR (L_aload_n (r := forAll_) 2 X dX1_answerBy_34 rfl rfl) (L_aload_n (r := s10) 0 X dX1_answerBy_35 rfl rfl) (fun v0 v1 st mm a b hd hc hs h => g_callVo (st := st) (cI := 2) X hT htr rfl (fun q => M_X1_isNewerThan q v1) lk_X1_isNewerThan im_X1_isNewerThan se_X1_isNewerThan ml_X1_49 rfl (by rw [hR]; exact ⟨Nat.le_of_ble_eq_true rfl, Nat.le_of_ble_eq_true rfl⟩) (Nat.le_trans hd (by decide)) ⟨hc, hs⟩ dX1_answerBy_36 h)) (Z_ne_F X dX1_answerBy_39 (by decide))))
  (ST_let (L_aload_n (r := forAll_) 2 X dX1_answerBy_42 rfl rfl) (S_astore_n (ev := fun told_21 => [(3, va_rf told_21), (0, va_rf forDay_), (1, va_rf forAll_), (2, .int stand_)]) X dX1_answerBy_43 rfl (by rw [hN]; decide) (fun _ => rfl)) fun told_21 =>
  (ST_done (upd := (fun (s : Option Nat) => [(3, va_rf s), (0, va_rf forDay_), (1, va_rf forAll_), (2, .int stand_)])) (s := told_21) [0, 1, 2, 3] rfl))
  (ST_done (upd := (fun (s : Option Nat) => [(3, va_rf s), (0, va_rf forDay_), (1, va_rf forAll_), (2, .int stand_)])) (s := s10) [0, 1, 2, 3] rfl)) fun s23 =>
  (SB_retI X C hr dX1_answerBy_56 (XE_tern (CE_1 (L_aload_n (r := s23) 0 X dX1_answerBy_44 rfl rfl) (N_eq_F X dX1_answerBy_45 (by decide))) (L_iconst (v := 0) X dX1_answerBy_48 (by decide)) (S_goto X dX1_answerBy_49 (by decide)) (XE_1 (L_aload_n (r := s23) 0 X dX1_answerBy_52 rfl rfl) (O_gi (c := 2) (j := 7) X rfl inW1 (by decide) fl_X1_18 rfl dX1_answerBy_53))))))) h (by rw [hR]; decide) (by rw [hR]; decide)
theorem dX3_slotOf_0 : decode cX3_slotOf 0 = .ok (.iload_n 0, 1) := by decide +kernel
theorem dX3_slotOf_1 : decode cX3_slotOf 1 = .ok (.bipush 61, 2) := by decide +kernel
theorem dX3_slotOf_3 : decode cX3_slotOf 3 = .ok (.imul, 1) := by decide +kernel
theorem dX3_slotOf_4 : decode cX3_slotOf 4 = .ok (.iload_n 1, 1) := by decide +kernel
theorem dX3_slotOf_5 : decode cX3_slotOf 5 = .ok (.iadd, 1) := by decide +kernel
theorem dX3_slotOf_6 : decode cX3_slotOf 6 = .ok (.iconst (-1), 1) := by decide +kernel
theorem dX3_slotOf_7 : decode cX3_slotOf 7 = .ok (.isub, 1) := by decide +kernel
theorem dX3_slotOf_8 : decode cX3_slotOf 8 = .ok (.ireturn, 1) := by decide +kernel
theorem lk_X3_slotOf : LK yX3_slotOf cX3_slotOf 2 (some .int) 2 := ⟨qW_at 286 (by decide +kernel) rfl, qW_at 38 (by decide +kernel) rfl, by decide, by decide, by decide +kernel⟩
theorem st_X3_slotOf : Cond.static yX3_slotOf ∈ qW := qW_at 285 (by decide +kernel) rfl
def F_X3_slotOf (person_ : Int32) (day_ : Int32) : QX Int32 :=
  (xb (xb (xb (xp person_) fun v1 => xb (xp (61 : Int32)) fun v2 => (xp (v1 * v2))) fun v3 => xb (xp day_) fun v4 => (xp (v3 + v4))) fun v5 => xb (xp (-1 : Int32)) fun v6 => (xp (v5 - v6)))
set_option maxRecDepth 100000 in
set_option maxHeartbeats 4000000 in
theorem M_X3_slotOf (person_ : Int32) (day_ : Int32) : MM yX3_slotOf cX3_slotOf 2 (some .int) 0 0 0 0 encI [.int person_, .int day_] (F_X3_slotOf person_ day_) := by
  refine MM_of (env0 := [(0, .int person_), (1, .int day_)]) (by decide) (by exact Nat.le_of_ble_eq_true rfl) (by rfl) (fun k mm res X C hR hN hr hname h => ?_)
  have X : CX k cX3_slotOf RX3 := X
  have hT : TH k (fun e m' => res = (.error e, m')) := TH_of C
  have htr := C.2.2.2.1
  unfold F_X3_slotOf at h
  exact SB_go (T := fun e m' => res = (.error e, m')) (RET := fun v m' => res = (.ok v, m')) (SB_retI X C hr dX3_slotOf_8 (XE_2 wI (XE_2 wI (XE_2 wI (L_iload_n (x := person_) 0 X dX3_slotOf_0 rfl rfl) (L_bipush (v := (61)) X dX3_slotOf_1 (by decide)) (O_imul X dX3_slotOf_3)) (L_iload_n (x := day_) 1 X dX3_slotOf_4 rfl rfl) (O_iadd X dX3_slotOf_5)) (L_iconst (v := (-1)) X dX3_slotOf_6 (by decide)) (O_isub X dX3_slotOf_7))) h (by rw [hR]; decide) (by rw [hR]; decide)
theorem dX3_keep_0 : decode cX3_keep 0 = .ok (.aload_n 1, 1) := by decide +kernel
theorem dX3_keep_1 : decode cX3_keep 1 = .ok (.getfield 17, 3) := by decide +kernel
theorem dX3_keep_4 : decode cX3_keep 4 = .ok (.aload_n 1, 1) := by decide +kernel
theorem dX3_keep_5 : decode cX3_keep 5 = .ok (.getfield 21, 3) := by decide +kernel
theorem dX3_keep_8 : decode cX3_keep 8 = .ok (.invokestatic 24, 3) := by decide +kernel
theorem dX3_keep_11 : decode cX3_keep 11 = .ok (.istore_n 2, 1) := by decide +kernel
theorem dX3_keep_12 : decode cX3_keep 12 = .ok (.iload_n 2, 1) := by decide +kernel
theorem dX3_keep_13 : decode cX3_keep 13 = .ok (.ifCond .lt 25, 3) := by decide +kernel
theorem dX3_keep_16 : decode cX3_keep 16 = .ok (.iload_n 2, 1) := by decide +kernel
theorem dX3_keep_17 : decode cX3_keep 17 = .ok (.aload_n 0, 1) := by decide +kernel
theorem dX3_keep_18 : decode cX3_keep 18 = .ok (.getfield 13, 3) := by decide +kernel
theorem dX3_keep_21 : decode cX3_keep 21 = .ok (.arraylength, 1) := by decide +kernel
theorem dX3_keep_22 : decode cX3_keep 22 = .ok (.if_icmp .ge 16, 3) := by decide +kernel
theorem dX3_keep_25 : decode cX3_keep 25 = .ok (.aload_n 1, 1) := by decide +kernel
theorem dX3_keep_26 : decode cX3_keep 26 = .ok (.aload_n 0, 1) := by decide +kernel
theorem dX3_keep_27 : decode cX3_keep 27 = .ok (.getfield 13, 3) := by decide +kernel
theorem dX3_keep_30 : decode cX3_keep 30 = .ok (.iload_n 2, 1) := by decide +kernel
theorem dX3_keep_31 : decode cX3_keep 31 = .ok (.aaload, 1) := by decide +kernel
theorem dX3_keep_32 : decode cX3_keep 32 = .ok (.invokevirtual 28, 3) := by decide +kernel
theorem dX3_keep_35 : decode cX3_keep 35 = .ok (.ifCond .ne 5, 3) := by decide +kernel
theorem dX3_keep_38 : decode cX3_keep 38 = .ok (.iconst 0, 1) := by decide +kernel
theorem dX3_keep_39 : decode cX3_keep 39 = .ok (.ireturn, 1) := by decide +kernel
theorem dX3_keep_40 : decode cX3_keep 40 = .ok (.aload_n 0, 1) := by decide +kernel
theorem dX3_keep_41 : decode cX3_keep 41 = .ok (.getfield 13, 3) := by decide +kernel
theorem dX3_keep_44 : decode cX3_keep 44 = .ok (.iload_n 2, 1) := by decide +kernel
theorem dX3_keep_45 : decode cX3_keep 45 = .ok (.aload_n 1, 1) := by decide +kernel
theorem dX3_keep_46 : decode cX3_keep 46 = .ok (.aastore, 1) := by decide +kernel
theorem dX3_keep_47 : decode cX3_keep 47 = .ok (.iconst 1, 1) := by decide +kernel
theorem dX3_keep_48 : decode cX3_keep 48 = .ok (.ireturn, 1) := by decide +kernel
theorem lk_X3_keep : LK yX3_keep cX3_keep 3 (some .boolean) 1 := ⟨qW_at 642 (by decide +kernel) rfl, qW_at 38 (by decide +kernel) rfl, by decide, by decide, by decide +kernel⟩
theorem im_X3_keep : Cond.instanceMethod yX3_keep ∈ qW := qW_at 640 (by decide +kernel) rfl
theorem se_X3_keep : Cond.selects RX3 yX3_keep yX3_keep ∈ qW := qW_at 641 (by decide +kernel) rfl
def F_X3_keep (this : Nat) (reply_ : Option Nat) : QX Int32 :=
  (xb (xb (xb (xp reply_) fun v1 => xgi 2 2 v1) fun v3 => xb (xb (xp reply_) fun v2 => xgi 2 5 v2) fun v4 => F_X3_slotOf v3 v4) fun slot_5 =>
  (xb (xb (xb (xb (xp slot_5) fun v6 => xp (decide (v6 < 0))) fun v11 => if v11 then xp true else (xb (xp slot_5) fun v7 => xb (xb (xb (xp (some this)) fun v8 => xgr 4 0 v8) fun v9 => xlen v9) fun v10 => xp (decide (v10 ≤ v7)))) fun v19 => if v19 then xp true else (xb (xb (xb (xp reply_) fun v15 => xb (xb (xb (xp (some this)) fun v12 => xgr 4 0 v12) fun v13 => xb (xp slot_5) fun v14 => xar 2 v13 v14) fun v16 => xo 2 v15 fun q => F_X1_isNewerThan q v16) fun v17 => xp (decide (¬ v17 = 0))) fun v18 => xp (!v18))) fun v24 => if v24 then (xb (xp (0 : Int32)) xz) else
  (xb (xb (xb (xp (some this)) fun v20 => xgr 4 0 v20) fun v21 => xb (xp slot_5) fun v22 => xb (xp reply_) fun v23 => xsar 2 v21 v22 v23) fun _ =>
  (xb (xp (1 : Int32)) xz))))
set_option maxRecDepth 100000 in
set_option maxHeartbeats 4000000 in
theorem M_X3_keep (this : Nat) (reply_ : Option Nat) : MM yX3_keep cX3_keep 3 (some .boolean) 1 21 0 0 encI [.ref this, va_rf reply_] (F_X3_keep this reply_) := by
  refine MM_of (env0 := [(0, va_rf (some this)), (1, va_rf reply_)]) (by decide) (by cases reply_ <;> exact Nat.le_of_ble_eq_true rfl) (by cases reply_ <;> rfl) (fun k mm res X C hR hN hr hname h => ?_)
  have X : CX k cX3_keep RX3 := X
  have hT : TH k (fun e m' => res = (.error e, m')) := TH_of C
  have htr := C.2.2.2.1
  unfold F_X3_keep at h
  exact SB_go (T := fun e m' => res = (.error e, m')) (RET := fun v m' => res = (.ok v, m')) (SB_let (XE_2 (pB := pI) wI (XE_1 (L_aload_n (r := reply_) 1 X dX3_keep_0 rfl rfl) (O_gi (c := 2) (j := 2) X rfl inW1 (by decide) fl_X3_17 rfl dX3_keep_1)) (XE_1 (L_aload_n (r := reply_) 1 X dX3_keep_4 rfl rfl) (O_gi (c := 2) (j := 5) X rfl inW1 (by decide) fl_X3_21 rfl dX3_keep_5)) (fun v0 v1 st mm a b hd hc hs h => g_callS (st := st) X hT htr (M_X3_slotOf v0 v1) lk_X3_slotOf st_X3_slotOf ml_X3_24 rfl (by rw [hR]; exact ⟨Nat.le_of_ble_eq_true rfl, Nat.le_of_ble_eq_true rfl⟩) (Nat.le_trans hd (by decide)) ⟨hc, hs⟩ dX3_keep_8 h)) (S_istore_n (ev := fun slot_5 => [(2, .int slot_5), (0, va_rf (some this)), (1, va_rf reply_)]) X dX3_keep_11 rfl (by rw [hN]; decide) (fun _ => (by cases reply_ <;> rfl))) fun slot_5 =>
  (SB_if (CE_or (CE_or (CE_1 (L_iload_n (x := slot_5) 0 X dX3_keep_12 rfl rfl) (Z_lt_T X dX3_keep_13 (by decide))) (CE_2 wI (L_iload_n (x := slot_5) 0 X dX3_keep_16 rfl rfl) (XE_1 (XE_1 (L_aload_n (r := (some this)) 1 X dX3_keep_17 rfl rfl) (O_gr (c := 4) (j := 0) X rfl inW3 (by decide) fl_X3_13 rfl dX3_keep_18)) (O_len X dX3_keep_21)) (C_ge_T X dX3_keep_22 (by decide)))) (CE_not (CE_1 (XE_2 (pB := pI) wR (L_aload_n (r := reply_) 2 X dX3_keep_25 rfl rfl) (XE_2 wR (XE_1 (L_aload_n (r := (some this)) 1 X dX3_keep_26 rfl rfl) (O_gr (c := 4) (j := 0) X rfl inW3 (by decide) fl_X3_13 rfl dX3_keep_27)) (L_iload_n (x := slot_5) 0 X dX3_keep_30 rfl rfl) (O_ar (c := 2) X (by decide) rfl dX3_keep_31)) (fun v0 v1 st mm a b hd hc hs h => g_callVo (st := st) (cI := 2) X hT htr rfl (fun q => M_X1_isNewerThan q v1) lk_X1_isNewerThan im_X1_isNewerThan se_X1_isNewerThan ml_X3_28 rfl (by rw [hR]; exact ⟨Nat.le_of_ble_eq_true rfl, Nat.le_of_ble_eq_true rfl⟩) (Nat.le_trans hd (by decide)) ⟨hc, hs⟩ dX3_keep_32 h)) (Z_ne_T X dX3_keep_35 (by decide)))))
  (SB_retZ X C hr dX3_keep_39 (L_iconst (v := 0) X dX3_keep_38 (by decide)))
  (SB_do (XE_3 wR wI (XE_1 (L_aload_n (r := (some this)) 1 X dX3_keep_40 rfl rfl) (O_gr (c := 4) (j := 0) X rfl inW3 (by decide) fl_X3_13 rfl dX3_keep_41)) (L_iload_n (x := slot_5) 0 X dX3_keep_44 rfl rfl) (L_aload_n (r := reply_) 2 X dX3_keep_45 rfl rfl) (O_sar (c := 2) X rfl (by decide) rfl dX3_keep_46))
  (SB_retZ X C hr dX3_keep_48 (L_iconst (v := 1) X dX3_keep_47 (by decide)))))) h (by rw [hR]; decide) (by rw [hR]; decide)
theorem dX3_keptFor_0 : decode cX3_keptFor 0 = .ok (.iload_n 1, 1) := by decide +kernel
theorem dX3_keptFor_1 : decode cX3_keptFor 1 = .ok (.iload_n 2, 1) := by decide +kernel
theorem dX3_keptFor_2 : decode cX3_keptFor 2 = .ok (.invokestatic 24, 3) := by decide +kernel
theorem dX3_keptFor_5 : decode cX3_keptFor 5 = .ok (.istore_n 3, 1) := by decide +kernel
theorem dX3_keptFor_6 : decode cX3_keptFor 6 = .ok (.iload_n 3, 1) := by decide +kernel
theorem dX3_keptFor_7 : decode cX3_keptFor 7 = .ok (.ifCond .lt 12, 3) := by decide +kernel
theorem dX3_keptFor_10 : decode cX3_keptFor 10 = .ok (.iload_n 3, 1) := by decide +kernel
theorem dX3_keptFor_11 : decode cX3_keptFor 11 = .ok (.aload_n 0, 1) := by decide +kernel
theorem dX3_keptFor_12 : decode cX3_keptFor 12 = .ok (.getfield 13, 3) := by decide +kernel
theorem dX3_keptFor_15 : decode cX3_keptFor 15 = .ok (.arraylength, 1) := by decide +kernel
theorem dX3_keptFor_16 : decode cX3_keptFor 16 = .ok (.if_icmp .lt 7, 3) := by decide +kernel
theorem dX3_keptFor_19 : decode cX3_keptFor 19 = .ok (.aconst_null, 1) := by decide +kernel
theorem dX3_keptFor_20 : decode cX3_keptFor 20 = .ok (.goto 9, 3) := by decide +kernel
theorem dX3_keptFor_23 : decode cX3_keptFor 23 = .ok (.aload_n 0, 1) := by decide +kernel
theorem dX3_keptFor_24 : decode cX3_keptFor 24 = .ok (.getfield 13, 3) := by decide +kernel
theorem dX3_keptFor_27 : decode cX3_keptFor 27 = .ok (.iload_n 3, 1) := by decide +kernel
theorem dX3_keptFor_28 : decode cX3_keptFor 28 = .ok (.aaload, 1) := by decide +kernel
theorem dX3_keptFor_29 : decode cX3_keptFor 29 = .ok (.areturn, 1) := by decide +kernel
theorem lk_X3_keptFor : LK yX3_keptFor cX3_keptFor 4 (some (.object "MeetingServer$Message")) 2 := ⟨qW_at 283 (by decide +kernel) rfl, qW_at 38 (by decide +kernel) rfl, by decide, by decide, by decide +kernel⟩
theorem im_X3_keptFor : Cond.instanceMethod yX3_keptFor ∈ qW := qW_at 281 (by decide +kernel) rfl
theorem se_X3_keptFor : Cond.selects RX3 yX3_keptFor yX3_keptFor ∈ qW := qW_at 282 (by decide +kernel) rfl
def F_X3_keptFor (this : Nat) (person_ : Int32) (day_ : Int32) : QX (Option Nat) :=
  (xb (xb (xp person_) fun v1 => xb (xp day_) fun v2 => F_X3_slotOf v1 v2) fun slot_3 =>
  (xb (xb (xb (xp slot_3) fun v4 => xp (decide (v4 < 0))) fun v9 => if v9 then xp true else (xb (xp slot_3) fun v5 => xb (xb (xb (xp (some this)) fun v6 => xgr 4 0 v6) fun v7 => xlen v7) fun v8 => xp (decide (v8 ≤ v5)))) fun v13 => if v13 then (xp none) else (xb (xb (xp (some this)) fun v10 => xgr 4 0 v10) fun v11 => xb (xp slot_3) fun v12 => xar 2 v11 v12)))
set_option maxRecDepth 100000 in
set_option maxHeartbeats 4000000 in
theorem M_X3_keptFor (this : Nat) (person_ : Int32) (day_ : Int32) : MM yX3_keptFor cX3_keptFor 4 (some (.object "MeetingServer$Message")) 1 21 0 0 encR [.ref this, .int person_, .int day_] (F_X3_keptFor this person_ day_) := by
  refine MM_of (env0 := [(0, va_rf (some this)), (1, .int person_), (2, .int day_)]) (by decide) (by exact Nat.le_of_ble_eq_true rfl) (by rfl) (fun k mm res X C hR hN hr hname h => ?_)
  have X : CX k cX3_keptFor RX3 := X
  have hT : TH k (fun e m' => res = (.error e, m')) := TH_of C
  have htr := C.2.2.2.1
  unfold F_X3_keptFor at h
  exact SB_go (T := fun e m' => res = (.error e, m')) (RET := fun v m' => res = (.ok v, m')) (SB_let (XE_2 (pB := pI) wI (L_iload_n (x := person_) 1 X dX3_keptFor_0 rfl rfl) (L_iload_n (x := day_) 2 X dX3_keptFor_1 rfl rfl) (fun v0 v1 st mm a b hd hc hs h => g_callS (st := st) X hT htr (M_X3_slotOf v0 v1) lk_X3_slotOf st_X3_slotOf ml_X3_24 rfl (by rw [hR]; exact ⟨Nat.le_of_ble_eq_true rfl, Nat.le_of_ble_eq_true rfl⟩) (Nat.le_trans hd (by decide)) ⟨hc, hs⟩ dX3_keptFor_2 h)) (S_istore_n (ev := fun slot_3 => [(3, .int slot_3), (0, va_rf (some this)), (1, .int person_), (2, .int day_)]) X dX3_keptFor_5 rfl (by rw [hN]; decide) (fun _ => rfl)) fun slot_3 =>
  (SB_retR X C hr (Or.inl ⟨_, rfl⟩) dX3_keptFor_29 (XE_tern (CE_or (CE_1 (L_iload_n (x := slot_3) 0 X dX3_keptFor_6 rfl rfl) (Z_lt_T X dX3_keptFor_7 (by decide))) (CE_2 wI (L_iload_n (x := slot_3) 0 X dX3_keptFor_10 rfl rfl) (XE_1 (XE_1 (L_aload_n (r := (some this)) 1 X dX3_keptFor_11 rfl rfl) (O_gr (c := 4) (j := 0) X rfl inW3 (by decide) fl_X3_13 rfl dX3_keptFor_12)) (O_len X dX3_keptFor_15)) (C_ge_F X dX3_keptFor_16 (by decide)))) (L_null X dX3_keptFor_19) (S_goto X dX3_keptFor_20 (by decide)) (XE_2 wR (XE_1 (L_aload_n (r := (some this)) 1 X dX3_keptFor_23 rfl rfl) (O_gr (c := 4) (j := 0) X rfl inW3 (by decide) fl_X3_13 rfl dX3_keptFor_24)) (L_iload_n (x := slot_3) 0 X dX3_keptFor_27 rfl rfl) (O_ar (c := 2) X (by decide) rfl dX3_keptFor_28))))) h (by rw [hR]; decide) (by rw [hR]; decide)
theorem dX3_answerFor_0 : decode cX3_answerFor 0 = .ok (.aload_n 0, 1) := by decide +kernel
theorem dX3_answerFor_1 : decode cX3_answerFor 1 = .ok (.iload_n 1, 1) := by decide +kernel
theorem dX3_answerFor_2 : decode cX3_answerFor 2 = .ok (.iload_n 2, 1) := by decide +kernel
theorem dX3_answerFor_3 : decode cX3_answerFor 3 = .ok (.invokevirtual 32, 3) := by decide +kernel
theorem dX3_answerFor_6 : decode cX3_answerFor 6 = .ok (.aload_n 0, 1) := by decide +kernel
theorem dX3_answerFor_7 : decode cX3_answerFor 7 = .ok (.iload_n 1, 1) := by decide +kernel
theorem dX3_answerFor_8 : decode cX3_answerFor 8 = .ok (.iconst (-1), 1) := by decide +kernel
theorem dX3_answerFor_9 : decode cX3_answerFor 9 = .ok (.invokevirtual 32, 3) := by decide +kernel
theorem dX3_answerFor_12 : decode cX3_answerFor 12 = .ok (.iload_n 3, 1) := by decide +kernel
theorem dX3_answerFor_13 : decode cX3_answerFor 13 = .ok (.invokestatic 36, 3) := by decide +kernel
theorem dX3_answerFor_16 : decode cX3_answerFor 16 = .ok (.ireturn, 1) := by decide +kernel
theorem lk_X3_answerFor : LK yX3_answerFor cX3_answerFor 4 (some .int) 3 := ⟨qW_at 279 (by decide +kernel) rfl, qW_at 38 (by decide +kernel) rfl, by decide, by decide, by decide +kernel⟩
theorem im_X3_answerFor : Cond.instanceMethod yX3_answerFor ∈ qW := qW_at 277 (by decide +kernel) rfl
theorem se_X3_answerFor : Cond.selects RX3 yX3_answerFor yX3_answerFor ∈ qW := qW_at 278 (by decide +kernel) rfl
def F_X3_answerFor (this : Nat) (person_ : Int32) (day_ : Int32) (stand_ : Int32) : QX Int32 :=
  (xb (xb (xp (some this)) fun v1 => xb (xp person_) fun v2 => xb (xp day_) fun v3 => xo 4 v1 fun q => F_X3_keptFor q v2 v3) fun v7 => xb (xb (xp (some this)) fun v4 => xb (xp person_) fun v5 => xb (xp (-1 : Int32)) fun v6 => xo 4 v4 fun q => F_X3_keptFor q v5 v6) fun v8 => xb (xp stand_) fun v9 => F_X1_answerBy v7 v8 v9)
set_option maxRecDepth 100000 in
set_option maxHeartbeats 4000000 in
theorem M_X3_answerFor (this : Nat) (person_ : Int32) (day_ : Int32) (stand_ : Int32) : MM yX3_answerFor cX3_answerFor 4 (some .int) 2 44 0 0 encI [.ref this, .int person_, .int day_, .int stand_] (F_X3_answerFor this person_ day_ stand_) := by
  refine MM_of (env0 := [(0, va_rf (some this)), (1, .int person_), (2, .int day_), (3, .int stand_)]) (by decide) (by exact Nat.le_of_ble_eq_true rfl) (by rfl) (fun k mm res X C hR hN hr hname h => ?_)
  have X : CX k cX3_answerFor RX3 := X
  have hT : TH k (fun e m' => res = (.error e, m')) := TH_of C
  have htr := C.2.2.2.1
  unfold F_X3_answerFor at h
  exact SB_go (T := fun e m' => res = (.error e, m')) (RET := fun v m' => res = (.ok v, m')) (SB_retI X C hr dX3_answerFor_16 (XE_3 (pB := pI) wR wR (XE_3 (pB := pR) wR wI (L_aload_n (r := (some this)) 0 X dX3_answerFor_0 rfl rfl) (L_iload_n (x := person_) 1 X dX3_answerFor_1 rfl rfl) (L_iload_n (x := day_) 2 X dX3_answerFor_2 rfl rfl) (fun v0 v1 v2 st mm a b hd hc hs h => g_callVo (st := st) (cI := 4) X hT htr rfl (fun q => M_X3_keptFor q v1 v2) lk_X3_keptFor im_X3_keptFor se_X3_keptFor ml_X3_32 rfl (by rw [hR]; exact ⟨Nat.le_of_ble_eq_true rfl, Nat.le_of_ble_eq_true rfl⟩) (Nat.le_trans hd (by decide)) ⟨hc, hs⟩ dX3_answerFor_3 h)) (XE_3 (pB := pR) wR wI (L_aload_n (r := (some this)) 0 X dX3_answerFor_6 rfl rfl) (L_iload_n (x := person_) 1 X dX3_answerFor_7 rfl rfl) (L_iconst (v := (-1)) X dX3_answerFor_8 (by decide)) (fun v0 v1 v2 st mm a b hd hc hs h => g_callVo (st := st) (cI := 4) X hT htr rfl (fun q => M_X3_keptFor q v1 v2) lk_X3_keptFor im_X3_keptFor se_X3_keptFor ml_X3_32 rfl (by rw [hR]; exact ⟨Nat.le_of_ble_eq_true rfl, Nat.le_of_ble_eq_true rfl⟩) (Nat.le_trans hd (by decide)) ⟨hc, hs⟩ dX3_answerFor_9 h)) (L_iload_n (x := stand_) 3 X dX3_answerFor_12 rfl rfl) (fun v0 v1 v2 st mm a b hd hc hs h => g_callS (st := st) X hT htr (M_X1_answerBy v0 v1 v2) lk_X1_answerBy st_X1_answerBy ml_X3_36 rfl (by rw [hR]; exact ⟨Nat.le_of_ble_eq_true rfl, Nat.le_of_ble_eq_true rfl⟩) (Nat.le_trans hd (by decide)) ⟨hc, hs⟩ dX3_answerFor_13 h))) h (by rw [hR]; decide) (by rw [hR]; decide)
theorem dX3_init_0 : decode cX3_init 0 = .ok (.aload_n 0, 1) := by decide +kernel
theorem dX3_init_1 : decode cX3_init 1 = .ok (.invokespecial 3, 3) := by decide +kernel
theorem dX3_init_4 : decode cX3_init 4 = .ok (.aload_n 0, 1) := by decide +kernel
theorem dX3_init_5 : decode cX3_init 5 = .ok (.sipush 305, 3) := by decide +kernel
theorem dX3_init_8 : decode cX3_init 8 = .ok (.anewarray 11, 3) := by decide +kernel
theorem dX3_init_11 : decode cX3_init 11 = .ok (.putfield 13, 3) := by decide +kernel
theorem dX3_init_14 : decode cX3_init 14 = .ok (.return_, 1) := by decide +kernel
theorem lk_X3_init : LK yX3_init cX3_init 1 none 0 := ⟨qW_at 1004 (by decide +kernel) rfl, qW_at 38 (by decide +kernel) rfl, by decide, by decide, by decide +kernel⟩
theorem im_X3_init : Cond.instanceMethod yX3_init ∈ qW := qW_at 1003 (by decide +kernel) rfl
def F_X3_init (this : Nat) : QX Unit :=
  (xb (xb (xp (some this)) fun v2 => xb (xb (xp (305 : Int32)) fun v1 => xnewr 2 v1 305) fun v3 => xsr 4 0 v2 v3) fun _ =>
  (xp ()))
set_option maxRecDepth 100000 in
set_option maxHeartbeats 4000000 in
theorem M_X3_init (this : Nat) : MM yX3_init cX3_init 1 none 1 12 1 305 encU [.ref this] (F_X3_init this) := by
  refine MM_of (env0 := [(0, va_rf (some this))]) (by decide) (by exact Nat.le_of_ble_eq_true rfl) (by rfl) (fun k mm res X C hR hN hr hname h => ?_)
  have X : CX k cX3_init RX3 := X
  have hT : TH k (fun e m' => res = (.error e, m')) := TH_of C
  have htr := C.2.2.2.1
  unfold F_X3_init at h
  exact SB_go (T := fun e m' => res = (.error e, m')) (RET := fun v m' => res = (.ok v, m')) (SB_pre (env' := [(0, va_rf (some this))]) (S_super (j := 0) X dX3_init_0 rfl dX3_init_1 rfl ml_X3_3 oi_in oi_co (by rw [hR]; exact Nat.le_of_ble_eq_true rfl) (by rw [hR]; exact Nat.le_of_ble_eq_true rfl))
  (SB_do (XE_2 wR (L_aload_n (r := (some this)) 0 X dX3_init_4 rfl rfl) (XE_1 (L_sipush (v := (305)) X dX3_init_5 (by decide)) (O_newr (cap := 305) (c := 2) X cl_X3_11 ao_1 (by decide) rfl (by decide) dX3_init_8)) (O_sr (c := 4) (j := 0) tyX3 X rfl inW3 tyX3_ok nmX3 (by decide) fl_X3_13 (Or.inr ⟨hname, rfl, rfl⟩) rfl (by decide +kernel : parseFieldDescriptor (TX3 0).2.2.1 = some (.array (.object "MeetingServer$Message"))) (Or.inr ⟨_, rfl⟩) dX3_init_11))
  (SB_retU X C hr dX3_init_14))) h (by rw [hR]; decide) (by rw [hR]; decide)
theorem dJ7_fill_53178_0 : decode cJ7_fill_53178 0 = .ok (.iconst 0, 1) := by decide +kernel
theorem dJ7_fill_53178_1 : decode cJ7_fill_53178 1 = .ok (.istore_n 2, 1) := by decide +kernel
theorem dJ7_fill_53178_2 : decode cJ7_fill_53178 2 = .ok (.aload_n 0, 1) := by decide +kernel
theorem dJ7_fill_53178_3 : decode cJ7_fill_53178 3 = .ok (.arraylength, 1) := by decide +kernel
theorem dJ7_fill_53178_4 : decode cJ7_fill_53178 4 = .ok (.istore_n 3, 1) := by decide +kernel
theorem dJ7_fill_53178_5 : decode cJ7_fill_53178 5 = .ok (.iload_n 2, 1) := by decide +kernel
theorem dJ7_fill_53178_6 : decode cJ7_fill_53178 6 = .ok (.iload_n 3, 1) := by decide +kernel
theorem dJ7_fill_53178_7 : decode cJ7_fill_53178 7 = .ok (.if_icmp .ge 13, 3) := by decide +kernel
theorem dJ7_fill_53178_10 : decode cJ7_fill_53178 10 = .ok (.aload_n 0, 1) := by decide +kernel
theorem dJ7_fill_53178_11 : decode cJ7_fill_53178 11 = .ok (.iload_n 2, 1) := by decide +kernel
theorem dJ7_fill_53178_12 : decode cJ7_fill_53178 12 = .ok (.iload_n 1, 1) := by decide +kernel
theorem dJ7_fill_53178_13 : decode cJ7_fill_53178 13 = .ok (.iastore, 1) := by decide +kernel
theorem dJ7_fill_53178_14 : decode cJ7_fill_53178 14 = .ok (.iinc 2 1, 3) := by decide +kernel
theorem dJ7_fill_53178_17 : decode cJ7_fill_53178 17 = .ok (.goto (-12), 3) := by decide +kernel
theorem dJ7_fill_53178_20 : decode cJ7_fill_53178 20 = .ok (.return_, 1) := by decide +kernel
theorem lk_J7_fill_53178 : LK yJ7_fill_53178 cJ7_fill_53178 4 none 2 := ⟨qW_at 913 (by decide +kernel) rfl, qW_at 43 (by decide +kernel) rfl, by decide, by decide, by decide +kernel⟩
theorem st_J7_fill_53178 : Cond.static yJ7_fill_53178 ∈ qW := qW_at 912 (by decide +kernel) rfl
def F_J7_fill_53178 (a_ : Option Nat) (val_ : Int32) : QX Unit :=
  (xb (xp (0 : Int32)) fun i_1 =>
  (xb (xb (xp a_) fun v2 => xlen v2) fun len_3 =>
  (xb (xl 2000 (fun (s4 : Int32) => (xb (xp s4) fun v5 => xb (xp len_3) fun v6 => xp (decide (v5 < v6)))) (fun (s4 : Int32) =>
  (xb (xb (xp a_) fun v7 => xb (xp s4) fun v8 => xb (xp val_) fun v9 => xsai v7 v8 v9) fun _ =>
  (xp (s4 + 1)))) i_1) fun s10 =>
  (xp ()))))
set_option maxRecDepth 100000 in
set_option maxHeartbeats 4000000 in
theorem M_J7_fill_53178 (a_ : Option Nat) (val_ : Int32) : MM yJ7_fill_53178 cJ7_fill_53178 4 none 0 0 0 0 encU [va_rf a_, .int val_] (F_J7_fill_53178 a_ val_) := by
  refine MM_of (env0 := [(0, va_rf a_), (1, .int val_)]) (by decide) (by cases a_ <;> exact Nat.le_of_ble_eq_true rfl) (by cases a_ <;> rfl) (fun k mm res X C hR hN hr hname h => ?_)
  have X : CX k cJ7_fill_53178 RJ7 := X
  have hT : TH k (fun e m' => res = (.error e, m')) := TH_of C
  have htr := C.2.2.2.1
  unfold F_J7_fill_53178 at h
  exact SB_go (T := fun e m' => res = (.error e, m')) (RET := fun v m' => res = (.ok v, m')) (SB_let (L_iconst (v := 0) X dJ7_fill_53178_0 (by decide)) (S_istore_n (ev := fun i_1 => [(2, .int i_1), (0, va_rf a_), (1, .int val_)]) X dJ7_fill_53178_1 rfl (by rw [hN]; decide) (fun _ => rfl)) fun i_1 =>
  (SB_let (XE_1 (L_aload_n (r := a_) 1 X dJ7_fill_53178_2 rfl rfl) (O_len X dJ7_fill_53178_3)) (S_istore_n (ev := fun len_3 => [(3, .int len_3), (2, .int i_1), (0, va_rf a_), (1, .int val_)]) X dJ7_fill_53178_4 rfl (by rw [hN]; decide) (fun _ => rfl)) fun len_3 =>
  (SB_seq (ST_loop (σ := Int32) (upd := (fun (s : Int32) => [(3, .int len_3), (2, .int s), (0, va_rf a_), (1, .int val_)])) (s0 := i_1) (n := 2000) (fun mm a b h => GG_sub [0, 1, 2, 3] rfl h)
  (fun s4 => (CE_2 wI (L_iload_n (x := s4) 1 X dJ7_fill_53178_5 rfl rfl) (L_iload_n (x := len_3) 0 X dJ7_fill_53178_6 rfl rfl) (C_lt_F X dJ7_fill_53178_7 (by decide))))
  (fun s4 => (ST_post (ST_do (XE_3 wR wI (L_aload_n (r := a_) 2 X dJ7_fill_53178_10 rfl rfl) (L_iload_n (x := s4) 1 X dJ7_fill_53178_11 rfl rfl) (L_iload_n (x := val_) 3 X dJ7_fill_53178_12 rfl rfl) (O_sai X dJ7_fill_53178_13))
  (ST_pre (env' := [(2, .int (s4 + 1)), (3, .int len_3), (0, va_rf a_), (1, .int val_)]) (S_iinc 1 X dJ7_fill_53178_14 rfl rfl (by rw [hN]; decide) rfl)
  (ST_done (upd := (fun (s : Int32) => [(3, .int len_3), (2, .int s), (0, va_rf a_), (1, .int val_)])) (s := (s4 + 1)) [1, 0, 2, 3] rfl))) fun _ mm a b h => S_goto X dJ7_fill_53178_17 (by decide) [] mm a b h))) fun s10 =>
  (SB_retU X C hr dJ7_fill_53178_20)))) h (by rw [hR]; decide) (by rw [hR]; decide)
theorem dX4_rowOf_0 : decode cX4_rowOf 0 = .ok (.bipush 60, 2) := by decide +kernel
theorem dX4_rowOf_2 : decode cX4_rowOf 2 = .ok (.newarray .int, 2) := by decide +kernel
theorem dX4_rowOf_4 : decode cX4_rowOf 4 = .ok (.astore_n 1, 1) := by decide +kernel
theorem dX4_rowOf_5 : decode cX4_rowOf 5 = .ok (.aload_n 1, 1) := by decide +kernel
theorem dX4_rowOf_6 : decode cX4_rowOf 6 = .ok (.iload_n 0, 1) := by decide +kernel
theorem dX4_rowOf_7 : decode cX4_rowOf 7 = .ok (.invokestatic 102, 3) := by decide +kernel
theorem dX4_rowOf_10 : decode cX4_rowOf 10 = .ok (.aload_n 1, 1) := by decide +kernel
theorem dX4_rowOf_11 : decode cX4_rowOf 11 = .ok (.areturn, 1) := by decide +kernel
theorem lk_X4_rowOf : LK yX4_rowOf cX4_rowOf 2 (some (.array .int)) 1 := ⟨qW_at 910 (by decide +kernel) rfl, qW_at 42 (by decide +kernel) rfl, by decide, by decide, by decide +kernel⟩
theorem st_X4_rowOf : Cond.static yX4_rowOf ∈ qW := qW_at 909 (by decide +kernel) rfl
def F_X4_rowOf (value_ : Int32) : QX (Option Nat) :=
  (xb (xb (xp (60 : Int32)) fun v1 => xnewi 0 v1 60) fun row_2 =>
  (xb (xb (xp row_2) fun v3 => xb (xp value_) fun v4 => F_J7_fill_53178 v3 v4) fun _ =>
  (xp row_2)))
set_option maxRecDepth 100000 in
set_option maxHeartbeats 4000000 in
theorem M_X4_rowOf (value_ : Int32) : MM yX4_rowOf cX4_rowOf 2 (some (.array .int)) 1 23 1 60 encR [.int value_] (F_X4_rowOf value_) := by
  refine MM_of (env0 := [(0, .int value_)]) (by decide) (by exact Nat.le_of_ble_eq_true rfl) (by rfl) (fun k mm res X C hR hN hr hname h => ?_)
  have X : CX k cX4_rowOf RX4 := X
  have hT : TH k (fun e m' => res = (.error e, m')) := TH_of C
  have htr := C.2.2.2.1
  unfold F_X4_rowOf at h
  exact SB_go (T := fun e m' => res = (.error e, m')) (RET := fun v m' => res = (.ok v, m')) (SB_let (XE_1 (L_bipush (v := (60)) X dX4_rowOf_0 (by decide)) (O_newi0 (cap := 60) X ac_int (by decide) dX4_rowOf_2)) (S_astore_n (ev := fun row_2 => [(1, va_rf row_2), (0, .int value_)]) X dX4_rowOf_4 rfl (by rw [hN]; decide) (fun _ => rfl)) fun row_2 =>
  (SB_do (XE_2 (pB := pU) wR (L_aload_n (r := row_2) 0 X dX4_rowOf_5 rfl rfl) (L_iload_n (x := value_) 1 X dX4_rowOf_6 rfl rfl) (fun v0 v1 st mm a b hd hc hs h => g_callS (st := st) X hT htr (M_J7_fill_53178 v0 v1) lk_J7_fill_53178 st_J7_fill_53178 ml_X4_102 rfl (by rw [hR]; exact ⟨Nat.le_of_ble_eq_true rfl, Nat.le_of_ble_eq_true rfl⟩) (Nat.le_trans hd (by decide)) ⟨hc, hs⟩ dX4_rowOf_7 h))
  (SB_retR X C hr (Or.inr ⟨_, rfl⟩) dX4_rowOf_11 (L_aload_n (r := row_2) 0 X dX4_rowOf_10 rfl rfl)))) h (by rw [hR]; decide) (by rw [hR]; decide)
theorem dX4_daysOfRule_0 : decode cX4_daysOfRule 0 = .ok (.lconst 0, 1) := by decide +kernel
theorem dX4_daysOfRule_1 : decode cX4_daysOfRule 1 = .ok (.lstore_n 1, 1) := by decide +kernel
theorem dX4_daysOfRule_2 : decode cX4_daysOfRule 2 = .ok (.aload_n 0, 1) := by decide +kernel
theorem dX4_daysOfRule_3 : decode cX4_daysOfRule 3 = .ok (.getfield 18, 3) := by decide +kernel
theorem dX4_daysOfRule_6 : decode cX4_daysOfRule 6 = .ok (.istore_n 3, 1) := by decide +kernel
theorem dX4_daysOfRule_7 : decode cX4_daysOfRule 7 = .ok (.aload_n 0, 1) := by decide +kernel
theorem dX4_daysOfRule_8 : decode cX4_daysOfRule 8 = .ok (.getfield 28, 3) := by decide +kernel
theorem dX4_daysOfRule_11 : decode cX4_daysOfRule 11 = .ok (.istore 4, 2) := by decide +kernel
theorem dX4_daysOfRule_13 : decode cX4_daysOfRule 13 = .ok (.iconst 0, 1) := by decide +kernel
theorem dX4_daysOfRule_14 : decode cX4_daysOfRule 14 = .ok (.istore 5, 2) := by decide +kernel
theorem dX4_daysOfRule_16 : decode cX4_daysOfRule 16 = .ok (.iload 5, 2) := by decide +kernel
theorem dX4_daysOfRule_18 : decode cX4_daysOfRule 18 = .ok (.bipush 60, 2) := by decide +kernel
theorem dX4_daysOfRule_20 : decode cX4_daysOfRule 20 = .ok (.if_icmp .ge 55, 3) := by decide +kernel
theorem dX4_daysOfRule_23 : decode cX4_daysOfRule 23 = .ok (.iload 5, 2) := by decide +kernel
theorem dX4_daysOfRule_25 : decode cX4_daysOfRule 25 = .ok (.iload 4, 2) := by decide +kernel
theorem dX4_daysOfRule_27 : decode cX4_daysOfRule 27 = .ok (.if_icmp .ne 42, 3) := by decide +kernel
theorem dX4_daysOfRule_30 : decode cX4_daysOfRule 30 = .ok (.iload 4, 2) := by decide +kernel
theorem dX4_daysOfRule_32 : decode cX4_daysOfRule 32 = .ok (.aload_n 0, 1) := by decide +kernel
theorem dX4_daysOfRule_33 : decode cX4_daysOfRule 33 = .ok (.getfield 9, 3) := by decide +kernel
theorem dX4_daysOfRule_36 : decode cX4_daysOfRule 36 = .ok (.iadd, 1) := by decide +kernel
theorem dX4_daysOfRule_37 : decode cX4_daysOfRule 37 = .ok (.istore 4, 2) := by decide +kernel
theorem dX4_daysOfRule_39 : decode cX4_daysOfRule 39 = .ok (.iload_n 3, 1) := by decide +kernel
theorem dX4_daysOfRule_40 : decode cX4_daysOfRule 40 = .ok (.ifCond .le 29, 3) := by decide +kernel
theorem dX4_daysOfRule_43 : decode cX4_daysOfRule 43 = .ok (.aload_n 0, 1) := by decide +kernel
theorem dX4_daysOfRule_44 : decode cX4_daysOfRule 44 = .ok (.getfield 15, 3) := by decide +kernel
theorem dX4_daysOfRule_47 : decode cX4_daysOfRule 47 = .ok (.iload 5, 2) := by decide +kernel
theorem dX4_daysOfRule_49 : decode cX4_daysOfRule 49 = .ok (.bipush 7, 2) := by decide +kernel
theorem dX4_daysOfRule_51 : decode cX4_daysOfRule 51 = .ok (.irem, 1) := by decide +kernel
theorem dX4_daysOfRule_52 : decode cX4_daysOfRule 52 = .ok (.ishr, 1) := by decide +kernel
theorem dX4_daysOfRule_53 : decode cX4_daysOfRule 53 = .ok (.iconst 1, 1) := by decide +kernel
theorem dX4_daysOfRule_54 : decode cX4_daysOfRule 54 = .ok (.iand, 1) := by decide +kernel
theorem dX4_daysOfRule_55 : decode cX4_daysOfRule 55 = .ok (.iconst 1, 1) := by decide +kernel
theorem dX4_daysOfRule_56 : decode cX4_daysOfRule 56 = .ok (.if_icmp .ne 13, 3) := by decide +kernel
theorem dX4_daysOfRule_59 : decode cX4_daysOfRule 59 = .ok (.lload_n 1, 1) := by decide +kernel
theorem dX4_daysOfRule_60 : decode cX4_daysOfRule 60 = .ok (.lconst 1, 1) := by decide +kernel
theorem dX4_daysOfRule_61 : decode cX4_daysOfRule 61 = .ok (.iload 5, 2) := by decide +kernel
theorem dX4_daysOfRule_63 : decode cX4_daysOfRule 63 = .ok (.lshl, 1) := by decide +kernel
theorem dX4_daysOfRule_64 : decode cX4_daysOfRule 64 = .ok (.lor, 1) := by decide +kernel
theorem dX4_daysOfRule_65 : decode cX4_daysOfRule 65 = .ok (.lstore_n 1, 1) := by decide +kernel
theorem dX4_daysOfRule_66 : decode cX4_daysOfRule 66 = .ok (.iinc 3 (-1), 3) := by decide +kernel
theorem dX4_daysOfRule_69 : decode cX4_daysOfRule 69 = .ok (.iinc 5 1, 3) := by decide +kernel
theorem dX4_daysOfRule_72 : decode cX4_daysOfRule 72 = .ok (.goto (-56), 3) := by decide +kernel
theorem dX4_daysOfRule_75 : decode cX4_daysOfRule 75 = .ok (.lload_n 1, 1) := by decide +kernel
theorem dX4_daysOfRule_76 : decode cX4_daysOfRule 76 = .ok (.lreturn, 1) := by decide +kernel
theorem lk_X4_daysOfRule : LK yX4_daysOfRule cX4_daysOfRule 6 (some .long) 0 := ⟨qW_at 921 (by decide +kernel) rfl, qW_at 42 (by decide +kernel) rfl, by decide, by decide, by decide +kernel⟩
theorem im_X4_daysOfRule : Cond.instanceMethod yX4_daysOfRule ∈ qW := qW_at 920 (by decide +kernel) rfl
theorem se_X4_daysOfRule : Cond.selects RX4 yX4_daysOfRule yX4_daysOfRule ∈ qW := qW_at 20 (by decide +kernel) rfl
def F_X4_daysOfRule (this : Nat) : QX Int64 :=
  (xb (xp (0 : Int64)) fun days_1 =>
  (xb (xb (xp (some this)) fun v2 => xgi 5 7 v2) fun left_3 =>
  (xb (xb (xp (some this)) fun v4 => xgi 5 2 v4) fun next_5 =>
  (xb (xp (0 : Int32)) fun day_6 =>
  (xb (xl 2000 (fun (s7 : Int32 × Int64 × Int32 × Int32) => (xb (xp s7.2.2.2) fun v8 => xb (xp (60 : Int32)) fun v9 => xp (decide (v8 < v9)))) (fun (s7 : Int32 × Int64 × Int32 × Int32) =>
  (xb (xb (xb (xp s7.2.2.2) fun v10 => xb (xp s7.1) fun v11 => xp (decide (v10 = v11))) fun v34 => if v34 then (xb (xb (xp s7.1) fun v13 => xb (xb (xp (some this)) fun v12 => xgi 5 5 v12) fun v14 => (xp (v13 + v14))) fun next_15 =>
  (xb (xb (xb (xb (xp s7.2.2.1) fun v16 => xp (decide (0 < v16))) fun v26 => if v26 then (xb (xb (xb (xb (xp (some this)) fun v17 => xgi 5 6 v17) fun v20 => xb (xb (xp s7.2.2.2) fun v18 => xb (xp (7 : Int32)) fun v19 => (xrem v18 v19)) fun v21 => (xp (v20 >>> (v21 &&& 31)))) fun v22 => xb (xp (1 : Int32)) fun v23 => (xp (v22 &&& v23))) fun v24 => xb (xp (1 : Int32)) fun v25 => xp (decide (v24 = v25))) else xp false) fun v32 => if v32 then (xb (xb (xp s7.2.1) fun v29 => xb (xb (xp (1 : Int64)) fun v27 => xb (xp s7.2.2.2) fun v28 => (xp (v27 <<< (v28.toInt64 &&& 63)))) fun v30 => (xp (v29 ||| v30))) fun days_31 =>
  (xp (days_31, (s7.2.2.1 + (-1))))) else (xp (s7.2.1, s7.2.2.1))) fun s33 =>
  (xp (next_15, s33.1, s33.2)))) else (xp (s7.1, s7.2.1, s7.2.2.1))) fun s35 =>
  (xp (s35.1, s35.2.1, s35.2.2, (s7.2.2.2 + 1))))) (next_5, days_1, left_3, day_6)) fun s36 =>
  (xp s36.2.1))))))
set_option maxRecDepth 100000 in
set_option maxHeartbeats 4000000 in
theorem M_X4_daysOfRule (this : Nat) : MM yX4_daysOfRule cX4_daysOfRule 6 (some .long) 0 0 0 0 encL [.ref this] (F_X4_daysOfRule this) := by
  refine MM_of (env0 := [(0, va_rf (some this))]) (by decide) (by exact Nat.le_of_ble_eq_true rfl) (by rfl) (fun k mm res X C hR hN hr hname h => ?_)
  have X : CX k cX4_daysOfRule RX4 := X
  have hT : TH k (fun e m' => res = (.error e, m')) := TH_of C
  have htr := C.2.2.2.1
  unfold F_X4_daysOfRule at h
  exact SB_go (T := fun e m' => res = (.error e, m')) (RET := fun v m' => res = (.ok v, m')) (SB_let (L_lconst (v := 0) X dX4_daysOfRule_0 (by decide)) (S_lstore_n (ev := fun days_1 => [(1, .long days_1), (0, va_rf (some this))]) X dX4_daysOfRule_1 rfl (by rw [hN]; decide) (fun _ => rfl)) fun days_1 =>
  (SB_let (XE_1 (L_aload_n (r := (some this)) 1 X dX4_daysOfRule_2 rfl rfl) (O_gi (c := 5) (j := 7) X rfl inW4 (by decide) fl_X4_18 rfl dX4_daysOfRule_3)) (S_istore_n (ev := fun left_3 => [(3, .int left_3), (1, .long days_1), (0, va_rf (some this))]) X dX4_daysOfRule_6 rfl (by rw [hN]; decide) (fun _ => rfl)) fun left_3 =>
  (SB_let (XE_1 (L_aload_n (r := (some this)) 2 X dX4_daysOfRule_7 rfl rfl) (O_gi (c := 5) (j := 2) X rfl inW4 (by decide) fl_X4_28 rfl dX4_daysOfRule_8)) (S_istore (ev := fun next_5 => [(4, .int next_5), (3, .int left_3), (1, .long days_1), (0, va_rf (some this))]) X dX4_daysOfRule_11 (by rw [hN]; decide) (fun _ => rfl)) fun next_5 =>
  (SB_let (L_iconst (v := 0) X dX4_daysOfRule_13 (by decide)) (S_istore (ev := fun day_6 => [(5, .int day_6), (4, .int next_5), (3, .int left_3), (1, .long days_1), (0, va_rf (some this))]) X dX4_daysOfRule_14 (by rw [hN]; decide) (fun _ => rfl)) fun day_6 =>
  (SB_seq (ST_loop (σ := Int32 × Int64 × Int32 × Int32) (upd := (fun (s : Int32 × Int64 × Int32 × Int32) => [(5, .int s.2.2.2), (4, .int s.1), (3, .int s.2.2.1), (1, .long s.2.1), (0, va_rf (some this))])) (s0 := (next_5, days_1, left_3, day_6)) (n := 2000) (fun mm a b h => GG_sub [0, 1, 2, 3, 4] rfl h)
  (fun s7 => (CE_2 wI (L_iload (x := s7.2.2.2) 0 X dX4_daysOfRule_16 rfl) (L_bipush (v := (60)) X dX4_daysOfRule_18 (by decide)) (C_lt_F X dX4_daysOfRule_20 (by decide))))
  (fun s7 => (ST_post (ST_seq (ST_if (CE_2 wI (L_iload (x := s7.2.2.2) 0 X dX4_daysOfRule_23 rfl) (L_iload (x := s7.1) 1 X dX4_daysOfRule_25 rfl) (C_eq_F X dX4_daysOfRule_27 (by decide)))
  (ST_let (XE_2 wI (L_iload (x := s7.1) 1 X dX4_daysOfRule_30 rfl) (XE_1 (L_aload_n (r := (some this)) 4 X dX4_daysOfRule_32 rfl rfl) (O_gi (c := 5) (j := 5) X rfl inW4 (by decide) fl_X4_9 rfl dX4_daysOfRule_33)) (O_iadd X dX4_daysOfRule_36)) (S_istore (ev := fun next_15 => [(4, .int next_15), (5, .int s7.2.2.2), (3, .int s7.2.2.1), (1, .long s7.2.1), (0, va_rf (some this))]) X dX4_daysOfRule_37 (by rw [hN]; decide) (fun _ => rfl)) fun next_15 =>
  (ST_seq (ST_if (CE_and (CE_1 (L_iload_n (x := s7.2.2.1) 2 X dX4_daysOfRule_39 rfl rfl) (Z_gt_F X dX4_daysOfRule_40 (by decide))) (CE_2 wI (XE_2 wI (XE_2 wI (XE_1 (L_aload_n (r := (some this)) 4 X dX4_daysOfRule_43 rfl rfl) (O_gi (c := 5) (j := 6) X rfl inW4 (by decide) fl_X4_15 rfl dX4_daysOfRule_44)) (XE_2 wI (L_iload (x := s7.2.2.2) 1 X dX4_daysOfRule_47 rfl) (L_bipush (v := (7)) X dX4_daysOfRule_49 (by decide)) (O_irem X dX4_daysOfRule_51)) (O_ishr X dX4_daysOfRule_52)) (L_iconst (v := 1) X dX4_daysOfRule_53 (by decide)) (O_iand X dX4_daysOfRule_54)) (L_iconst (v := 1) X dX4_daysOfRule_55 (by decide)) (C_eq_F X dX4_daysOfRule_56 (by decide))))
  (ST_let (XE_2 wL (L_lload_n (x := s7.2.1) 3 X dX4_daysOfRule_59 rfl rfl) (XE_2 wL (L_lconst (v := 1) X dX4_daysOfRule_60 (by decide)) (L_iload (x := s7.2.2.2) 1 X dX4_daysOfRule_61 rfl) (O_lshl X dX4_daysOfRule_63)) (O_lor X dX4_daysOfRule_64)) (S_lstore_n (ev := fun days_31 => [(1, .long days_31), (4, .int next_15), (5, .int s7.2.2.2), (3, .int s7.2.2.1), (0, va_rf (some this))]) X dX4_daysOfRule_65 rfl (by rw [hN]; decide) (fun _ => rfl)) fun days_31 =>
  (ST_pre (env' := [(3, .int (s7.2.2.1 + (-1))), (1, .long days_31), (4, .int next_15), (5, .int s7.2.2.2), (0, va_rf (some this))]) (S_iinc 3 X dX4_daysOfRule_66 rfl rfl (by rw [hN]; decide) rfl)
  (ST_done (upd := (fun (s : Int64 × Int32) => [(4, .int next_15), (5, .int s7.2.2.2), (3, .int s.2), (1, .long s.1), (0, va_rf (some this))])) (s := (days_31, (s7.2.2.1 + (-1)))) [2, 3, 0, 1, 4] rfl)))
  (ST_done (upd := (fun (s : Int64 × Int32) => [(4, .int next_15), (5, .int s7.2.2.2), (3, .int s.2), (1, .long s.1), (0, va_rf (some this))])) (s := (s7.2.1, s7.2.2.1)) [0, 1, 2, 3, 4] rfl)) fun s33 =>
  (ST_done (upd := (fun (s : Int32 × Int64 × Int32) => [(5, .int s7.2.2.2), (4, .int s.1), (3, .int s.2.2), (1, .long s.2.1), (0, va_rf (some this))])) (s := (next_15, s33.1, s33.2)) [1, 0, 2, 3, 4] rfl)))
  (ST_done (upd := (fun (s : Int32 × Int64 × Int32) => [(5, .int s7.2.2.2), (4, .int s.1), (3, .int s.2.2), (1, .long s.2.1), (0, va_rf (some this))])) (s := (s7.1, s7.2.1, s7.2.2.1)) [0, 1, 2, 3, 4] rfl)) fun s35 =>
  (ST_pre (env' := [(5, .int (s7.2.2.2 + 1)), (4, .int s35.1), (3, .int s35.2.2), (1, .long s35.2.1), (0, va_rf (some this))]) (S_iinc 0 X dX4_daysOfRule_69 rfl rfl (by rw [hN]; decide) rfl)
  (ST_done (upd := (fun (s : Int32 × Int64 × Int32 × Int32) => [(5, .int s.2.2.2), (4, .int s.1), (3, .int s.2.2.1), (1, .long s.2.1), (0, va_rf (some this))])) (s := (s35.1, s35.2.1, s35.2.2, (s7.2.2.2 + 1))) [0, 1, 2, 3, 4] rfl))) fun _ mm a b h => S_goto X dX4_daysOfRule_72 (by decide) [] mm a b h))) fun s36 =>
  (SB_retL X C hr dX4_daysOfRule_76 (L_lload_n (x := s36.2.1) 3 X dX4_daysOfRule_75 rfl rfl))))))) h (by rw [hR]; decide) (by rw [hR]; decide)
theorem dJ13_bitCount_95d88_0 : decode cJ13_bitCount_95d88 0 = .ok (.lload_n 0, 1) := by decide +kernel
theorem dJ13_bitCount_95d88_1 : decode cJ13_bitCount_95d88 1 = .ok (.lload_n 0, 1) := by decide +kernel
theorem dJ13_bitCount_95d88_2 : decode cJ13_bitCount_95d88 2 = .ok (.iconst 1, 1) := by decide +kernel
theorem dJ13_bitCount_95d88_3 : decode cJ13_bitCount_95d88 3 = .ok (.lushr, 1) := by decide +kernel
theorem dJ13_bitCount_95d88_4 : decode cJ13_bitCount_95d88 4 = .ok (.ldc2_w 314, 3) := by decide +kernel
theorem dJ13_bitCount_95d88_7 : decode cJ13_bitCount_95d88 7 = .ok (.land, 1) := by decide +kernel
theorem dJ13_bitCount_95d88_8 : decode cJ13_bitCount_95d88 8 = .ok (.lsub, 1) := by decide +kernel
theorem dJ13_bitCount_95d88_9 : decode cJ13_bitCount_95d88 9 = .ok (.lstore_n 0, 1) := by decide +kernel
theorem dJ13_bitCount_95d88_10 : decode cJ13_bitCount_95d88 10 = .ok (.lload_n 0, 1) := by decide +kernel
theorem dJ13_bitCount_95d88_11 : decode cJ13_bitCount_95d88 11 = .ok (.ldc2_w 316, 3) := by decide +kernel
theorem dJ13_bitCount_95d88_14 : decode cJ13_bitCount_95d88 14 = .ok (.land, 1) := by decide +kernel
theorem dJ13_bitCount_95d88_15 : decode cJ13_bitCount_95d88 15 = .ok (.lload_n 0, 1) := by decide +kernel
theorem dJ13_bitCount_95d88_16 : decode cJ13_bitCount_95d88 16 = .ok (.iconst 2, 1) := by decide +kernel
theorem dJ13_bitCount_95d88_17 : decode cJ13_bitCount_95d88 17 = .ok (.lushr, 1) := by decide +kernel
theorem dJ13_bitCount_95d88_18 : decode cJ13_bitCount_95d88 18 = .ok (.ldc2_w 316, 3) := by decide +kernel
theorem dJ13_bitCount_95d88_21 : decode cJ13_bitCount_95d88 21 = .ok (.land, 1) := by decide +kernel
theorem dJ13_bitCount_95d88_22 : decode cJ13_bitCount_95d88 22 = .ok (.ladd, 1) := by decide +kernel
theorem dJ13_bitCount_95d88_23 : decode cJ13_bitCount_95d88 23 = .ok (.lstore_n 0, 1) := by decide +kernel
theorem dJ13_bitCount_95d88_24 : decode cJ13_bitCount_95d88 24 = .ok (.lload_n 0, 1) := by decide +kernel
theorem dJ13_bitCount_95d88_25 : decode cJ13_bitCount_95d88 25 = .ok (.lload_n 0, 1) := by decide +kernel
theorem dJ13_bitCount_95d88_26 : decode cJ13_bitCount_95d88 26 = .ok (.iconst 4, 1) := by decide +kernel
theorem dJ13_bitCount_95d88_27 : decode cJ13_bitCount_95d88 27 = .ok (.lushr, 1) := by decide +kernel
theorem dJ13_bitCount_95d88_28 : decode cJ13_bitCount_95d88 28 = .ok (.ladd, 1) := by decide +kernel
theorem dJ13_bitCount_95d88_29 : decode cJ13_bitCount_95d88 29 = .ok (.ldc2_w 318, 3) := by decide +kernel
theorem dJ13_bitCount_95d88_32 : decode cJ13_bitCount_95d88 32 = .ok (.land, 1) := by decide +kernel
theorem dJ13_bitCount_95d88_33 : decode cJ13_bitCount_95d88 33 = .ok (.lstore_n 0, 1) := by decide +kernel
theorem dJ13_bitCount_95d88_34 : decode cJ13_bitCount_95d88 34 = .ok (.lload_n 0, 1) := by decide +kernel
theorem dJ13_bitCount_95d88_35 : decode cJ13_bitCount_95d88 35 = .ok (.lload_n 0, 1) := by decide +kernel
theorem dJ13_bitCount_95d88_36 : decode cJ13_bitCount_95d88 36 = .ok (.bipush 8, 2) := by decide +kernel
theorem dJ13_bitCount_95d88_38 : decode cJ13_bitCount_95d88 38 = .ok (.lushr, 1) := by decide +kernel
theorem dJ13_bitCount_95d88_39 : decode cJ13_bitCount_95d88 39 = .ok (.ladd, 1) := by decide +kernel
theorem dJ13_bitCount_95d88_40 : decode cJ13_bitCount_95d88 40 = .ok (.lstore_n 0, 1) := by decide +kernel
theorem dJ13_bitCount_95d88_41 : decode cJ13_bitCount_95d88 41 = .ok (.lload_n 0, 1) := by decide +kernel
theorem dJ13_bitCount_95d88_42 : decode cJ13_bitCount_95d88 42 = .ok (.lload_n 0, 1) := by decide +kernel
theorem dJ13_bitCount_95d88_43 : decode cJ13_bitCount_95d88 43 = .ok (.bipush 16, 2) := by decide +kernel
theorem dJ13_bitCount_95d88_45 : decode cJ13_bitCount_95d88 45 = .ok (.lushr, 1) := by decide +kernel
theorem dJ13_bitCount_95d88_46 : decode cJ13_bitCount_95d88 46 = .ok (.ladd, 1) := by decide +kernel
theorem dJ13_bitCount_95d88_47 : decode cJ13_bitCount_95d88 47 = .ok (.lstore_n 0, 1) := by decide +kernel
theorem dJ13_bitCount_95d88_48 : decode cJ13_bitCount_95d88 48 = .ok (.lload_n 0, 1) := by decide +kernel
theorem dJ13_bitCount_95d88_49 : decode cJ13_bitCount_95d88 49 = .ok (.lload_n 0, 1) := by decide +kernel
theorem dJ13_bitCount_95d88_50 : decode cJ13_bitCount_95d88 50 = .ok (.bipush 32, 2) := by decide +kernel
theorem dJ13_bitCount_95d88_52 : decode cJ13_bitCount_95d88 52 = .ok (.lushr, 1) := by decide +kernel
theorem dJ13_bitCount_95d88_53 : decode cJ13_bitCount_95d88 53 = .ok (.ladd, 1) := by decide +kernel
theorem dJ13_bitCount_95d88_54 : decode cJ13_bitCount_95d88 54 = .ok (.lstore_n 0, 1) := by decide +kernel
theorem dJ13_bitCount_95d88_55 : decode cJ13_bitCount_95d88 55 = .ok (.lload_n 0, 1) := by decide +kernel
theorem dJ13_bitCount_95d88_56 : decode cJ13_bitCount_95d88 56 = .ok (.l2i, 1) := by decide +kernel
theorem dJ13_bitCount_95d88_57 : decode cJ13_bitCount_95d88 57 = .ok (.bipush 127, 2) := by decide +kernel
theorem dJ13_bitCount_95d88_59 : decode cJ13_bitCount_95d88 59 = .ok (.iand, 1) := by decide +kernel
theorem dJ13_bitCount_95d88_60 : decode cJ13_bitCount_95d88 60 = .ok (.ireturn, 1) := by decide +kernel
theorem lk_J13_bitCount_95d88 : LK yJ13_bitCount_95d88 cJ13_bitCount_95d88 2 (some .int) 1 := ⟨qW_at 925 (by decide +kernel) rfl, qW_at 45 (by decide +kernel) rfl, by decide, by decide, by decide +kernel⟩
theorem st_J13_bitCount_95d88 : Cond.static yJ13_bitCount_95d88 ∈ qW := qW_at 924 (by decide +kernel) rfl
def F_J13_bitCount_95d88 (i_ : Int64) : QX Int32 :=
  (xb (xb (xp i_) fun v5 => xb (xb (xb (xp i_) fun v1 => xb (xp (1 : Int32)) fun v2 => (xp (v1.toUInt64 >>> (v2.toInt64.toUInt64 &&& Int64.toUInt64 63)).toInt64)) fun v3 => xb (xp (6148914691236517205 : Int64)) fun v4 => (xp (v3 &&& v4))) fun v6 => (xp (v5 - v6))) fun i_7 =>
  (xb (xb (xb (xp i_7) fun v8 => xb (xp (3689348814741910323 : Int64)) fun v9 => (xp (v8 &&& v9))) fun v14 => xb (xb (xb (xp i_7) fun v10 => xb (xp (2 : Int32)) fun v11 => (xp (v10.toUInt64 >>> (v11.toInt64.toUInt64 &&& Int64.toUInt64 63)).toInt64)) fun v12 => xb (xp (3689348814741910323 : Int64)) fun v13 => (xp (v12 &&& v13))) fun v15 => (xp (v14 + v15))) fun i_16 =>
  (xb (xb (xb (xp i_16) fun v19 => xb (xb (xp i_16) fun v17 => xb (xp (4 : Int32)) fun v18 => (xp (v17.toUInt64 >>> (v18.toInt64.toUInt64 &&& Int64.toUInt64 63)).toInt64)) fun v20 => (xp (v19 + v20))) fun v21 => xb (xp (1085102592571150095 : Int64)) fun v22 => (xp (v21 &&& v22))) fun i_23 =>
  (xb (xb (xp i_23) fun v26 => xb (xb (xp i_23) fun v24 => xb (xp (8 : Int32)) fun v25 => (xp (v24.toUInt64 >>> (v25.toInt64.toUInt64 &&& Int64.toUInt64 63)).toInt64)) fun v27 => (xp (v26 + v27))) fun i_28 =>
  (xb (xb (xp i_28) fun v31 => xb (xb (xp i_28) fun v29 => xb (xp (16 : Int32)) fun v30 => (xp (v29.toUInt64 >>> (v30.toInt64.toUInt64 &&& Int64.toUInt64 63)).toInt64)) fun v32 => (xp (v31 + v32))) fun i_33 =>
  (xb (xb (xp i_33) fun v36 => xb (xb (xp i_33) fun v34 => xb (xp (32 : Int32)) fun v35 => (xp (v34.toUInt64 >>> (v35.toInt64.toUInt64 &&& Int64.toUInt64 63)).toInt64)) fun v37 => (xp (v36 + v37))) fun i_38 =>
  (xb (xb (xp i_38) fun v39 => xp v39.toInt32) fun v40 => xb (xp (127 : Int32)) fun v41 => (xp (v40 &&& v41)))))))))
set_option maxRecDepth 100000 in
set_option maxHeartbeats 4000000 in
theorem M_J13_bitCount_95d88 (i_ : Int64) : MM yJ13_bitCount_95d88 cJ13_bitCount_95d88 2 (some .int) 0 0 0 0 encI [.long i_] (F_J13_bitCount_95d88 i_) := by
  refine MM_of (env0 := [(0, .long i_)]) (by decide) (by exact Nat.le_of_ble_eq_true rfl) (by rfl) (fun k mm res X C hR hN hr hname h => ?_)
  have X : CX k cJ13_bitCount_95d88 RJ13 := X
  have hT : TH k (fun e m' => res = (.error e, m')) := TH_of C
  have htr := C.2.2.2.1
  unfold F_J13_bitCount_95d88 at h
  exact SB_go (T := fun e m' => res = (.error e, m')) (RET := fun v m' => res = (.ok v, m')) (SB_let (XE_2 wL (L_lload_n (x := i_) 0 X dJ13_bitCount_95d88_0 rfl rfl) (XE_2 wL (XE_2 wL (L_lload_n (x := i_) 0 X dJ13_bitCount_95d88_1 rfl rfl) (L_iconst (v := 1) X dJ13_bitCount_95d88_2 (by decide)) (O_lushr X dJ13_bitCount_95d88_3)) (L_ldc2 X dJ13_bitCount_95d88_4 kl_J13_314) (O_land X dJ13_bitCount_95d88_7)) (O_lsub X dJ13_bitCount_95d88_8)) (S_lstore_n (ev := fun i_7 => [(0, .long i_7)]) X dJ13_bitCount_95d88_9 rfl (by rw [hN]; decide) (fun _ => rfl)) fun i_7 =>
  (SB_let (XE_2 wL (XE_2 wL (L_lload_n (x := i_7) 0 X dJ13_bitCount_95d88_10 rfl rfl) (L_ldc2 X dJ13_bitCount_95d88_11 kl_J13_316) (O_land X dJ13_bitCount_95d88_14)) (XE_2 wL (XE_2 wL (L_lload_n (x := i_7) 0 X dJ13_bitCount_95d88_15 rfl rfl) (L_iconst (v := 2) X dJ13_bitCount_95d88_16 (by decide)) (O_lushr X dJ13_bitCount_95d88_17)) (L_ldc2 X dJ13_bitCount_95d88_18 kl_J13_316) (O_land X dJ13_bitCount_95d88_21)) (O_ladd X dJ13_bitCount_95d88_22)) (S_lstore_n (ev := fun i_16 => [(0, .long i_16)]) X dJ13_bitCount_95d88_23 rfl (by rw [hN]; decide) (fun _ => rfl)) fun i_16 =>
  (SB_let (XE_2 wL (XE_2 wL (L_lload_n (x := i_16) 0 X dJ13_bitCount_95d88_24 rfl rfl) (XE_2 wL (L_lload_n (x := i_16) 0 X dJ13_bitCount_95d88_25 rfl rfl) (L_iconst (v := 4) X dJ13_bitCount_95d88_26 (by decide)) (O_lushr X dJ13_bitCount_95d88_27)) (O_ladd X dJ13_bitCount_95d88_28)) (L_ldc2 X dJ13_bitCount_95d88_29 kl_J13_318) (O_land X dJ13_bitCount_95d88_32)) (S_lstore_n (ev := fun i_23 => [(0, .long i_23)]) X dJ13_bitCount_95d88_33 rfl (by rw [hN]; decide) (fun _ => rfl)) fun i_23 =>
  (SB_let (XE_2 wL (L_lload_n (x := i_23) 0 X dJ13_bitCount_95d88_34 rfl rfl) (XE_2 wL (L_lload_n (x := i_23) 0 X dJ13_bitCount_95d88_35 rfl rfl) (L_bipush (v := (8)) X dJ13_bitCount_95d88_36 (by decide)) (O_lushr X dJ13_bitCount_95d88_38)) (O_ladd X dJ13_bitCount_95d88_39)) (S_lstore_n (ev := fun i_28 => [(0, .long i_28)]) X dJ13_bitCount_95d88_40 rfl (by rw [hN]; decide) (fun _ => rfl)) fun i_28 =>
  (SB_let (XE_2 wL (L_lload_n (x := i_28) 0 X dJ13_bitCount_95d88_41 rfl rfl) (XE_2 wL (L_lload_n (x := i_28) 0 X dJ13_bitCount_95d88_42 rfl rfl) (L_bipush (v := (16)) X dJ13_bitCount_95d88_43 (by decide)) (O_lushr X dJ13_bitCount_95d88_45)) (O_ladd X dJ13_bitCount_95d88_46)) (S_lstore_n (ev := fun i_33 => [(0, .long i_33)]) X dJ13_bitCount_95d88_47 rfl (by rw [hN]; decide) (fun _ => rfl)) fun i_33 =>
  (SB_let (XE_2 wL (L_lload_n (x := i_33) 0 X dJ13_bitCount_95d88_48 rfl rfl) (XE_2 wL (L_lload_n (x := i_33) 0 X dJ13_bitCount_95d88_49 rfl rfl) (L_bipush (v := (32)) X dJ13_bitCount_95d88_50 (by decide)) (O_lushr X dJ13_bitCount_95d88_52)) (O_ladd X dJ13_bitCount_95d88_53)) (S_lstore_n (ev := fun i_38 => [(0, .long i_38)]) X dJ13_bitCount_95d88_54 rfl (by rw [hN]; decide) (fun _ => rfl)) fun i_38 =>
  (SB_retI X C hr dJ13_bitCount_95d88_60 (XE_2 wI (XE_1 (L_lload_n (x := i_38) 0 X dJ13_bitCount_95d88_55 rfl rfl) (O_l2i X dJ13_bitCount_95d88_56)) (L_bipush (v := (127)) X dJ13_bitCount_95d88_57 (by decide)) (O_iand X dJ13_bitCount_95d88_59))))))))) h (by rw [hR]; decide) (by rw [hR]; decide)
theorem dX6_isDay_0 : decode cX6_isDay 0 = .ok (.iload_n 0, 1) := by decide +kernel
theorem dX6_isDay_1 : decode cX6_isDay 1 = .ok (.ifCond .lt 13, 3) := by decide +kernel
theorem dX6_isDay_4 : decode cX6_isDay 4 = .ok (.iload_n 0, 1) := by decide +kernel
theorem dX6_isDay_5 : decode cX6_isDay 5 = .ok (.bipush 60, 2) := by decide +kernel
theorem dX6_isDay_7 : decode cX6_isDay 7 = .ok (.if_icmp .ge 7, 3) := by decide +kernel
theorem dX6_isDay_10 : decode cX6_isDay 10 = .ok (.iconst 1, 1) := by decide +kernel
theorem dX6_isDay_11 : decode cX6_isDay 11 = .ok (.goto 4, 3) := by decide +kernel
theorem dX6_isDay_14 : decode cX6_isDay 14 = .ok (.iconst 0, 1) := by decide +kernel
theorem dX6_isDay_15 : decode cX6_isDay 15 = .ok (.ireturn, 1) := by decide +kernel
theorem lk_X6_isDay : LK yX6_isDay cX6_isDay 1 (some .boolean) 1 := ⟨qW_at 256 (by decide +kernel) rfl, qW_at 29 (by decide +kernel) rfl, by decide, by decide, by decide +kernel⟩
theorem st_X6_isDay : Cond.static yX6_isDay ∈ qW := qW_at 255 (by decide +kernel) rfl
def F_X6_isDay (day_ : Int32) : QX Int32 :=
  (xb (xb (xb (xb (xp day_) fun v1 => xp (decide (0 ≤ v1))) fun v4 => if v4 then (xb (xp day_) fun v2 => xb (xp (60 : Int32)) fun v3 => xp (decide (v2 < v3))) else xp false) fun v5 => xp (b2i v5)) xz)
set_option maxRecDepth 100000 in
set_option maxHeartbeats 4000000 in
theorem M_X6_isDay (day_ : Int32) : MM yX6_isDay cX6_isDay 1 (some .boolean) 0 0 0 0 encI [.int day_] (F_X6_isDay day_) := by
  refine MM_of (env0 := [(0, .int day_)]) (by decide) (by exact Nat.le_of_ble_eq_true rfl) (by rfl) (fun k mm res X C hR hN hr hname h => ?_)
  have X : CX k cX6_isDay RX6 := X
  have hT : TH k (fun e m' => res = (.error e, m')) := TH_of C
  have htr := C.2.2.2.1
  unfold F_X6_isDay at h
  exact SB_go (T := fun e m' => res = (.error e, m')) (RET := fun v m' => res = (.ok v, m')) (SB_retZ X C hr dX6_isDay_15 (XE_b2i (CE_and (CE_1 (L_iload_n (x := day_) 0 X dX6_isDay_0 rfl rfl) (Z_ge_F X dX6_isDay_1 (by decide))) (CE_2 wI (L_iload_n (x := day_) 0 X dX6_isDay_4 rfl rfl) (L_bipush (v := (60)) X dX6_isDay_5 (by decide)) (C_lt_F X dX6_isDay_7 (by decide)))) (S_b1 X dX6_isDay_10 dX6_isDay_11 (by decide)) (S_b0 X dX6_isDay_14))) h (by rw [hR]; decide) (by rw [hR]; decide)
theorem dX4_isDate_0 : decode cX4_isDate 0 = .ok (.iload_n 1, 1) := by decide +kernel
theorem dX4_isDate_1 : decode cX4_isDate 1 = .ok (.invokestatic 87, 3) := by decide +kernel
theorem dX4_isDate_4 : decode cX4_isDate 4 = .ok (.ifCond .eq 20, 3) := by decide +kernel
theorem dX4_isDate_7 : decode cX4_isDate 7 = .ok (.aload_n 0, 1) := by decide +kernel
theorem dX4_isDate_8 : decode cX4_isDate 8 = .ok (.getfield 58, 3) := by decide +kernel
theorem dX4_isDate_11 : decode cX4_isDate 11 = .ok (.iload_n 1, 1) := by decide +kernel
theorem dX4_isDate_12 : decode cX4_isDate 12 = .ok (.lshr, 1) := by decide +kernel
theorem dX4_isDate_13 : decode cX4_isDate 13 = .ok (.lconst 1, 1) := by decide +kernel
theorem dX4_isDate_14 : decode cX4_isDate 14 = .ok (.land, 1) := by decide +kernel
theorem dX4_isDate_15 : decode cX4_isDate 15 = .ok (.lconst 1, 1) := by decide +kernel
theorem dX4_isDate_16 : decode cX4_isDate 16 = .ok (.lcmp, 1) := by decide +kernel
theorem dX4_isDate_17 : decode cX4_isDate 17 = .ok (.ifCond .ne 7, 3) := by decide +kernel
theorem dX4_isDate_20 : decode cX4_isDate 20 = .ok (.iconst 1, 1) := by decide +kernel
theorem dX4_isDate_21 : decode cX4_isDate 21 = .ok (.goto 4, 3) := by decide +kernel
theorem dX4_isDate_24 : decode cX4_isDate 24 = .ok (.iconst 0, 1) := by decide +kernel
theorem dX4_isDate_25 : decode cX4_isDate 25 = .ok (.ireturn, 1) := by decide +kernel
theorem lk_X4_isDate : LK yX4_isDate cX4_isDate 2 (some .boolean) 1 := ⟨qW_at 464 (by decide +kernel) rfl, qW_at 42 (by decide +kernel) rfl, by decide, by decide, by decide +kernel⟩
theorem im_X4_isDate : Cond.instanceMethod yX4_isDate ∈ qW := qW_at 462 (by decide +kernel) rfl
theorem se_X4_isDate : Cond.selects RX4 yX4_isDate yX4_isDate ∈ qW := qW_at 463 (by decide +kernel) rfl
def F_X4_isDate (this : Nat) (day_ : Int32) : QX Int32 :=
  (xb (xb (xb (xb (xb (xp day_) fun v1 => F_X6_isDay v1) fun v2 => xp (decide (¬ v2 = 0))) fun v10 => if v10 then (xb (xb (xb (xb (xp (some this)) fun v3 => xgl 5 10 v3) fun v4 => xb (xp day_) fun v5 => (xp (v4 >>> (v5.toInt64 &&& 63)))) fun v6 => xb (xp (1 : Int64)) fun v7 => (xp (v6 &&& v7))) fun v8 => xb (xp (1 : Int64)) fun v9 => xp (decide (v8 = v9))) else xp false) fun v11 => xp (b2i v11)) xz)
set_option maxRecDepth 100000 in
set_option maxHeartbeats 4000000 in
theorem M_X4_isDate (this : Nat) (day_ : Int32) : MM yX4_isDate cX4_isDate 2 (some .boolean) 1 20 0 0 encI [.ref this, .int day_] (F_X4_isDate this day_) := by
  refine MM_of (env0 := [(0, va_rf (some this)), (1, .int day_)]) (by decide) (by exact Nat.le_of_ble_eq_true rfl) (by rfl) (fun k mm res X C hR hN hr hname h => ?_)
  have X : CX k cX4_isDate RX4 := X
  have hT : TH k (fun e m' => res = (.error e, m')) := TH_of C
  have htr := C.2.2.2.1
  unfold F_X4_isDate at h
  exact SB_go (T := fun e m' => res = (.error e, m')) (RET := fun v m' => res = (.ok v, m')) (SB_retZ X C hr dX4_isDate_25 (XE_b2i (CE_and (CE_1 (XE_1 (pB := pI)  (L_iload_n (x := day_) 1 X dX4_isDate_0 rfl rfl) (fun v0 st mm a b hd hc hs h => g_callSN (st := st) X hT htr (M_X6_isDay v0) lk_X6_isDay st_X6_isDay ml_X4_87 rfl (by rw [hR]; exact ⟨Nat.le_of_ble_eq_true rfl, Nat.le_of_ble_eq_true rfl⟩) (Nat.le_trans hd (by decide)) ⟨hc, hs⟩ dX4_isDate_1 h)) (Z_ne_F X dX4_isDate_4 (by decide))) (CE_2 wL (XE_2 wL (XE_2 wL (XE_1 (L_aload_n (r := (some this)) 0 X dX4_isDate_7 rfl rfl) (O_gl (c := 5) (j := 10) X rfl inW4 (by decide) fl_X4_58 rfl dX4_isDate_8)) (L_iload_n (x := day_) 1 X dX4_isDate_11 rfl rfl) (O_lshr X dX4_isDate_12)) (L_lconst (v := 1) X dX4_isDate_13 (by decide)) (O_land X dX4_isDate_14)) (L_lconst (v := 1) X dX4_isDate_15 (by decide)) (J_eq_F X dX4_isDate_16 dX4_isDate_17 (by decide)))) (S_b1 X dX4_isDate_20 dX4_isDate_21 (by decide)) (S_b0 X dX4_isDate_24))) h (by rw [hR]; decide) (by rw [hR]; decide)
theorem dX4_findDates_0 : decode cX4_findDates 0 = .ok (.aload_n 0, 1) := by decide +kernel
theorem dX4_findDates_1 : decode cX4_findDates 1 = .ok (.aload_n 0, 1) := by decide +kernel
theorem dX4_findDates_2 : decode cX4_findDates 2 = .ok (.getfield 51, 3) := by decide +kernel
theorem dX4_findDates_5 : decode cX4_findDates 5 = .ok (.aload_n 0, 1) := by decide +kernel
theorem dX4_findDates_6 : decode cX4_findDates 6 = .ok (.invokevirtual 108, 3) := by decide +kernel
theorem dX4_findDates_9 : decode cX4_findDates 9 = .ok (.aload_n 0, 1) := by decide +kernel
theorem dX4_findDates_10 : decode cX4_findDates 10 = .ok (.getfield 55, 3) := by decide +kernel
theorem dX4_findDates_13 : decode cX4_findDates 13 = .ok (.ldc2_w 77, 3) := by decide +kernel
theorem dX4_findDates_16 : decode cX4_findDates 16 = .ok (.lxor, 1) := by decide +kernel
theorem dX4_findDates_17 : decode cX4_findDates 17 = .ok (.land, 1) := by decide +kernel
theorem dX4_findDates_18 : decode cX4_findDates 18 = .ok (.lor, 1) := by decide +kernel
theorem dX4_findDates_19 : decode cX4_findDates 19 = .ok (.putfield 58, 3) := by decide +kernel
theorem dX4_findDates_22 : decode cX4_findDates 22 = .ok (.aload_n 0, 1) := by decide +kernel
theorem dX4_findDates_23 : decode cX4_findDates 23 = .ok (.getfield 58, 3) := by decide +kernel
theorem dX4_findDates_26 : decode cX4_findDates 26 = .ok (.invokestatic 112, 3) := by decide +kernel
theorem dX4_findDates_29 : decode cX4_findDates 29 = .ok (.newarray .int, 2) := by decide +kernel
theorem dX4_findDates_31 : decode cX4_findDates 31 = .ok (.astore_n 1, 1) := by decide +kernel
theorem dX4_findDates_32 : decode cX4_findDates 32 = .ok (.iconst 0, 1) := by decide +kernel
theorem dX4_findDates_33 : decode cX4_findDates 33 = .ok (.istore_n 2, 1) := by decide +kernel
theorem dX4_findDates_34 : decode cX4_findDates 34 = .ok (.iconst 0, 1) := by decide +kernel
theorem dX4_findDates_35 : decode cX4_findDates 35 = .ok (.istore_n 3, 1) := by decide +kernel
theorem dX4_findDates_36 : decode cX4_findDates 36 = .ok (.iload_n 3, 1) := by decide +kernel
theorem dX4_findDates_37 : decode cX4_findDates 37 = .ok (.bipush 60, 2) := by decide +kernel
theorem dX4_findDates_39 : decode cX4_findDates 39 = .ok (.if_icmp .ge 30, 3) := by decide +kernel
theorem dX4_findDates_42 : decode cX4_findDates 42 = .ok (.aload_n 0, 1) := by decide +kernel
theorem dX4_findDates_43 : decode cX4_findDates 43 = .ok (.iload_n 3, 1) := by decide +kernel
theorem dX4_findDates_44 : decode cX4_findDates 44 = .ok (.invokevirtual 118, 3) := by decide +kernel
theorem dX4_findDates_47 : decode cX4_findDates 47 = .ok (.ifCond .eq 16, 3) := by decide +kernel
theorem dX4_findDates_50 : decode cX4_findDates 50 = .ok (.iload_n 2, 1) := by decide +kernel
theorem dX4_findDates_51 : decode cX4_findDates 51 = .ok (.aload_n 1, 1) := by decide +kernel
theorem dX4_findDates_52 : decode cX4_findDates 52 = .ok (.arraylength, 1) := by decide +kernel
theorem dX4_findDates_53 : decode cX4_findDates 53 = .ok (.if_icmp .ge 10, 3) := by decide +kernel
theorem dX4_findDates_56 : decode cX4_findDates 56 = .ok (.aload_n 1, 1) := by decide +kernel
theorem dX4_findDates_57 : decode cX4_findDates 57 = .ok (.iload_n 2, 1) := by decide +kernel
theorem dX4_findDates_58 : decode cX4_findDates 58 = .ok (.iload_n 3, 1) := by decide +kernel
theorem dX4_findDates_59 : decode cX4_findDates 59 = .ok (.iastore, 1) := by decide +kernel
theorem dX4_findDates_60 : decode cX4_findDates 60 = .ok (.iinc 2 1, 3) := by decide +kernel
theorem dX4_findDates_63 : decode cX4_findDates 63 = .ok (.iinc 3 1, 3) := by decide +kernel
theorem dX4_findDates_66 : decode cX4_findDates 66 = .ok (.goto (-30), 3) := by decide +kernel
theorem dX4_findDates_69 : decode cX4_findDates 69 = .ok (.aload_n 0, 1) := by decide +kernel
theorem dX4_findDates_70 : decode cX4_findDates 70 = .ok (.aload_n 1, 1) := by decide +kernel
theorem dX4_findDates_71 : decode cX4_findDates 71 = .ok (.putfield 61, 3) := by decide +kernel
theorem dX4_findDates_74 : decode cX4_findDates 74 = .ok (.return_, 1) := by decide +kernel
theorem lk_X4_findDates : LK yX4_findDates cX4_findDates 4 none 0 := ⟨qW_at 917 (by decide +kernel) rfl, qW_at 42 (by decide +kernel) rfl, by decide, by decide, by decide +kernel⟩
theorem im_X4_findDates : Cond.instanceMethod yX4_findDates ∈ qW := qW_at 916 (by decide +kernel) rfl
theorem se_X4_findDates : Cond.selects RX4 yX4_findDates yX4_findDates ∈ qW := qW_at 19 (by decide +kernel) rfl
def F_X4_findDates (this : Nat) : QX Unit :=
  (xb (xb (xp (some this)) fun v10 => xb (xb (xb (xp (some this)) fun v1 => xgl 5 8 v1) fun v8 => xb (xb (xb (xp (some this)) fun v2 => xo 5 v2 fun q => F_X4_daysOfRule q ) fun v6 => xb (xb (xb (xp (some this)) fun v3 => xgl 5 9 v3) fun v4 => xb (xp (-1 : Int64)) fun v5 => xp (v4 ^^^ v5)) fun v7 => (xp (v6 &&& v7))) fun v9 => (xp (v8 ||| v9))) fun v11 => xsl 5 10 v10 v11) fun _ =>
  (xb (xb (xb (xb (xp (some this)) fun v12 => xgl 5 10 v12) fun v13 => F_J13_bitCount_95d88 v13) fun v14 => xnewi 0 v14 64) fun row_15 =>
  (xb (xp (0 : Int32)) fun place_16 =>
  (xb (xp (0 : Int32)) fun day_17 =>
  (xb (xl 2000 (fun (s18 : Int32 × Int32) => (xb (xp s18.2) fun v19 => xb (xp (60 : Int32)) fun v20 => xp (decide (v19 < v20)))) (fun (s18 : Int32 × Int32) =>
  (xb (xb (xb (xb (xb (xp (some this)) fun v21 => xb (xp s18.2) fun v22 => xo 5 v21 fun q => F_X4_isDate q v22) fun v23 => xp (decide (¬ v23 = 0))) fun v27 => if v27 then (xb (xp s18.1) fun v24 => xb (xb (xp row_15) fun v25 => xlen v25) fun v26 => xp (decide (v24 < v26))) else xp false) fun v31 => if v31 then (xb (xb (xp row_15) fun v28 => xb (xp s18.1) fun v29 => xb (xp s18.2) fun v30 => xsai v28 v29 v30) fun _ =>
  (xp (s18.1 + 1))) else (xp s18.1)) fun s32 =>
  (xp (s32, (s18.2 + 1))))) (place_16, day_17)) fun s33 =>
  (xb (xb (xp (some this)) fun v34 => xb (xp row_15) fun v35 => xsr 5 11 v34 v35) fun _ =>
  (xp ())))))))
set_option maxRecDepth 100000 in
set_option maxHeartbeats 4000000 in
theorem M_X4_findDates (this : Nat) : MM yX4_findDates cX4_findDates 4 none 2 41 1 64 encU [.ref this] (F_X4_findDates this) := by
  refine MM_of (env0 := [(0, va_rf (some this))]) (by decide) (by exact Nat.le_of_ble_eq_true rfl) (by rfl) (fun k mm res X C hR hN hr hname h => ?_)
  have X : CX k cX4_findDates RX4 := X
  have hT : TH k (fun e m' => res = (.error e, m')) := TH_of C
  have htr := C.2.2.2.1
  unfold F_X4_findDates at h
  exact SB_go (T := fun e m' => res = (.error e, m')) (RET := fun v m' => res = (.ok v, m')) (SB_do (XE_2 wR (L_aload_n (r := (some this)) 0 X dX4_findDates_0 rfl rfl) (XE_2 wL (XE_1 (L_aload_n (r := (some this)) 0 X dX4_findDates_1 rfl rfl) (O_gl (c := 5) (j := 8) X rfl inW4 (by decide) fl_X4_51 rfl dX4_findDates_2)) (XE_2 wL (XE_1 (pB := pL)  (L_aload_n (r := (some this)) 0 X dX4_findDates_5 rfl rfl) (fun v0 st mm a b hd hc hs h => g_callVo (st := st) (cI := 5) X hT htr rfl (fun q => M_X4_daysOfRule q ) lk_X4_daysOfRule im_X4_daysOfRule se_X4_daysOfRule ml_X4_108 rfl (by rw [hR]; exact ⟨Nat.le_of_ble_eq_true rfl, Nat.le_of_ble_eq_true rfl⟩) (Nat.le_trans hd (by decide)) ⟨hc, hs⟩ dX4_findDates_6 h)) (XE_2 wL (XE_1 (L_aload_n (r := (some this)) 0 X dX4_findDates_9 rfl rfl) (O_gl (c := 5) (j := 9) X rfl inW4 (by decide) fl_X4_55 rfl dX4_findDates_10)) (L_ldc2 X dX4_findDates_13 kl_X4_77) (O_lxor X dX4_findDates_16)) (O_land X dX4_findDates_17)) (O_lor X dX4_findDates_18)) (O_sl (c := 5) (j := 10) tyX4 X rfl inW4 tyX4_ok nmX4 (by decide) fl_X4_58 (Or.inl rfl) rfl (by decide +kernel) dX4_findDates_19))
  (SB_let (XE_1 (XE_1 (pB := pI)  (XE_1 (L_aload_n (r := (some this)) 0 X dX4_findDates_22 rfl rfl) (O_gl (c := 5) (j := 10) X rfl inW4 (by decide) fl_X4_58 rfl dX4_findDates_23)) (fun v0 st mm a b hd hc hs h => g_callS (st := st) X hT htr (M_J13_bitCount_95d88 v0) lk_J13_bitCount_95d88 st_J13_bitCount_95d88 ml_X4_112 rfl (by rw [hR]; exact ⟨Nat.le_of_ble_eq_true rfl, Nat.le_of_ble_eq_true rfl⟩) (Nat.le_trans hd (by decide)) ⟨hc, hs⟩ dX4_findDates_26 h)) (O_newi0 (cap := 64) X ac_int (by decide) dX4_findDates_29)) (S_astore_n (ev := fun row_15 => [(1, va_rf row_15), (0, va_rf (some this))]) X dX4_findDates_31 rfl (by rw [hN]; decide) (fun _ => rfl)) fun row_15 =>
  (SB_let (L_iconst (v := 0) X dX4_findDates_32 (by decide)) (S_istore_n (ev := fun place_16 => [(2, .int place_16), (1, va_rf row_15), (0, va_rf (some this))]) X dX4_findDates_33 rfl (by rw [hN]; decide) (fun _ => (by cases row_15 <;> rfl))) fun place_16 =>
  (SB_let (L_iconst (v := 0) X dX4_findDates_34 (by decide)) (S_istore_n (ev := fun day_17 => [(3, .int day_17), (2, .int place_16), (1, va_rf row_15), (0, va_rf (some this))]) X dX4_findDates_35 rfl (by rw [hN]; decide) (fun _ => rfl)) fun day_17 =>
  (SB_seq (ST_loop (σ := Int32 × Int32) (upd := (fun (s : Int32 × Int32) => [(3, .int s.2), (2, .int s.1), (1, va_rf row_15), (0, va_rf (some this))])) (s0 := (place_16, day_17)) (n := 2000) (fun mm a b h => GG_sub [0, 1, 2, 3] rfl h)
  (fun s18 => (CE_2 wI (L_iload_n (x := s18.2) 0 X dX4_findDates_36 rfl rfl) (L_bipush (v := (60)) X dX4_findDates_37 (by decide)) (C_lt_F X dX4_findDates_39 (by decide))))
  (fun s18 => (ST_post (ST_seq (ST_if (CE_and (CE_1 (XE_2 (pB := pI) wR (L_aload_n (r := (some this)) 3 X dX4_findDates_42 rfl rfl) (L_iload_n (x := s18.2) 0 X dX4_findDates_43 rfl rfl) (fun v0 v1 st mm a b hd hc hs h => g_callVo (st := st) (cI := 5) X hT htr rfl (fun q => M_X4_isDate q v1) lk_X4_isDate im_X4_isDate se_X4_isDate ml_X4_118 rfl (by rw [hR]; exact ⟨Nat.le_of_ble_eq_true rfl, Nat.le_of_ble_eq_true rfl⟩) (Nat.le_trans hd (by decide)) ⟨hc, hs⟩ dX4_findDates_44 h)) (Z_ne_F X dX4_findDates_47 (by decide))) (CE_2 wI (L_iload_n (x := s18.1) 1 X dX4_findDates_50 rfl rfl) (XE_1 (L_aload_n (r := row_15) 2 X dX4_findDates_51 rfl rfl) (O_len X dX4_findDates_52)) (C_lt_F X dX4_findDates_53 (by decide))))
  (ST_do (XE_3 wR wI (L_aload_n (r := row_15) 2 X dX4_findDates_56 rfl rfl) (L_iload_n (x := s18.1) 1 X dX4_findDates_57 rfl rfl) (L_iload_n (x := s18.2) 0 X dX4_findDates_58 rfl rfl) (O_sai X dX4_findDates_59))
  (ST_pre (env' := [(2, .int (s18.1 + 1)), (3, .int s18.2), (1, va_rf row_15), (0, va_rf (some this))]) (S_iinc 1 X dX4_findDates_60 rfl rfl (by rw [hN]; decide) (by cases row_15 <;> rfl))
  (ST_done (upd := (fun (s : Int32) => [(3, .int s18.2), (2, .int s), (1, va_rf row_15), (0, va_rf (some this))])) (s := (s18.1 + 1)) [1, 0, 2, 3] rfl)))
  (ST_done (upd := (fun (s : Int32) => [(3, .int s18.2), (2, .int s), (1, va_rf row_15), (0, va_rf (some this))])) (s := s18.1) [0, 1, 2, 3] rfl)) fun s32 =>
  (ST_pre (env' := [(3, .int (s18.2 + 1)), (2, .int s32), (1, va_rf row_15), (0, va_rf (some this))]) (S_iinc 0 X dX4_findDates_63 rfl rfl (by rw [hN]; decide) rfl)
  (ST_done (upd := (fun (s : Int32 × Int32) => [(3, .int s.2), (2, .int s.1), (1, va_rf row_15), (0, va_rf (some this))])) (s := (s32, (s18.2 + 1))) [0, 1, 2, 3] rfl))) fun _ mm a b h => S_goto X dX4_findDates_66 (by decide) [] mm a b h))) fun s33 =>
  (SB_do (XE_2 wR (L_aload_n (r := (some this)) 3 X dX4_findDates_69 rfl rfl) (L_aload_n (r := row_15) 2 X dX4_findDates_70 rfl rfl) (O_sr (c := 5) (j := 11) tyX4 X rfl inW4 tyX4_ok nmX4 (by decide) fl_X4_61 (Or.inl rfl) rfl (by decide +kernel : parseFieldDescriptor (TX4 11).2.2.1 = some (.array .int)) (Or.inr ⟨_, rfl⟩) dX4_findDates_71))
  (SB_retU X C hr dX4_findDates_74))))))) h (by rw [hR]; decide) (by rw [hR]; decide)
theorem dX4_init_0 : decode cX4_init 0 = .ok (.aload_n 0, 1) := by decide +kernel
theorem dX4_init_1 : decode cX4_init 1 = .ok (.invokespecial 3, 3) := by decide +kernel
theorem dX4_init_4 : decode cX4_init 4 = .ok (.aload_n 0, 1) := by decide +kernel
theorem dX4_init_5 : decode cX4_init 5 = .ok (.iconst 1, 1) := by decide +kernel
theorem dX4_init_6 : decode cX4_init 6 = .ok (.putfield 9, 3) := by decide +kernel
theorem dX4_init_9 : decode cX4_init 9 = .ok (.aload_n 0, 1) := by decide +kernel
theorem dX4_init_10 : decode cX4_init 10 = .ok (.bipush 127, 2) := by decide +kernel
theorem dX4_init_12 : decode cX4_init 12 = .ok (.putfield 15, 3) := by decide +kernel
theorem dX4_init_15 : decode cX4_init 15 = .ok (.aload_n 0, 1) := by decide +kernel
theorem dX4_init_16 : decode cX4_init 16 = .ok (.iconst 1, 1) := by decide +kernel
theorem dX4_init_17 : decode cX4_init 17 = .ok (.putfield 18, 3) := by decide +kernel
theorem dX4_init_20 : decode cX4_init 20 = .ok (.aload_n 0, 1) := by decide +kernel
theorem dX4_init_21 : decode cX4_init 21 = .ok (.iconst 0, 1) := by decide +kernel
theorem dX4_init_22 : decode cX4_init 22 = .ok (.putfield 21, 3) := by decide +kernel
theorem dX4_init_25 : decode cX4_init 25 = .ok (.aload_n 0, 1) := by decide +kernel
theorem dX4_init_26 : decode cX4_init 26 = .ok (.aload_n 1, 1) := by decide +kernel
theorem dX4_init_27 : decode cX4_init 27 = .ok (.putfield 24, 3) := by decide +kernel
theorem dX4_init_30 : decode cX4_init 30 = .ok (.aload_n 0, 1) := by decide +kernel
theorem dX4_init_31 : decode cX4_init 31 = .ok (.iload_n 2, 1) := by decide +kernel
theorem dX4_init_32 : decode cX4_init 32 = .ok (.putfield 28, 3) := by decide +kernel
theorem dX4_init_35 : decode cX4_init 35 = .ok (.aload_n 0, 1) := by decide +kernel
theorem dX4_init_36 : decode cX4_init 36 = .ok (.iload_n 3, 1) := by decide +kernel
theorem dX4_init_37 : decode cX4_init 37 = .ok (.putfield 31, 3) := by decide +kernel
theorem dX4_init_40 : decode cX4_init 40 = .ok (.aload_n 0, 1) := by decide +kernel
theorem dX4_init_41 : decode cX4_init 41 = .ok (.iload 4, 2) := by decide +kernel
theorem dX4_init_43 : decode cX4_init 43 = .ok (.putfield 34, 3) := by decide +kernel
theorem dX4_init_46 : decode cX4_init 46 = .ok (.aload_n 0, 1) := by decide +kernel
theorem dX4_init_47 : decode cX4_init 47 = .ok (.iconst (-1), 1) := by decide +kernel
theorem dX4_init_48 : decode cX4_init 48 = .ok (.invokestatic 37, 3) := by decide +kernel
theorem dX4_init_51 : decode cX4_init 51 = .ok (.putfield 41, 3) := by decide +kernel
theorem dX4_init_54 : decode cX4_init 54 = .ok (.aload_n 0, 1) := by decide +kernel
theorem dX4_init_55 : decode cX4_init 55 = .ok (.iconst 0, 1) := by decide +kernel
theorem dX4_init_56 : decode cX4_init 56 = .ok (.invokestatic 37, 3) := by decide +kernel
theorem dX4_init_59 : decode cX4_init 59 = .ok (.putfield 45, 3) := by decide +kernel
theorem dX4_init_62 : decode cX4_init 62 = .ok (.aload_n 0, 1) := by decide +kernel
theorem dX4_init_63 : decode cX4_init 63 = .ok (.invokevirtual 48, 3) := by decide +kernel
theorem dX4_init_66 : decode cX4_init 66 = .ok (.return_, 1) := by decide +kernel
theorem lk_X4_init : LK yX4_init cX4_init 5 none 4 := ⟨qW_at 906 (by decide +kernel) rfl, qW_at 42 (by decide +kernel) rfl, by decide, by decide, by decide +kernel⟩
theorem im_X4_init : Cond.instanceMethod yX4_init ∈ qW := qW_at 905 (by decide +kernel) rfl
def F_X4_init (this : Nat) (zone_ : Option Nat) (firstDay_ : Int32) (hour_ : Int32) (length_ : Int32) : QX Unit :=
  (xb (xb (xp (some this)) fun v1 => xb (xp (1 : Int32)) fun v2 => xsi 5 5 v1 v2) fun _ =>
  (xb (xb (xp (some this)) fun v3 => xb (xp (127 : Int32)) fun v4 => xsi 5 6 v3 v4) fun _ =>
  (xb (xb (xp (some this)) fun v5 => xb (xp (1 : Int32)) fun v6 => xsi 5 7 v5 v6) fun _ =>
  (xb (xb (xp (some this)) fun v7 => xb (xp (0 : Int32)) fun v8 => xsi 5 0 v7 v8) fun _ =>
  (xb (xb (xp (some this)) fun v9 => xb (xp zone_) fun v10 => xsr 5 1 v9 v10) fun _ =>
  (xb (xb (xp (some this)) fun v11 => xb (xp firstDay_) fun v12 => xsi 5 2 v11 v12) fun _ =>
  (xb (xb (xp (some this)) fun v13 => xb (xp hour_) fun v14 => xsi 5 3 v13 v14) fun _ =>
  (xb (xb (xp (some this)) fun v15 => xb (xp length_) fun v16 => xsi 5 4 v15 v16) fun _ =>
  (xb (xb (xp (some this)) fun v18 => xb (xb (xp (-1 : Int32)) fun v17 => F_X4_rowOf v17) fun v19 => xsr 5 12 v18 v19) fun _ =>
  (xb (xb (xp (some this)) fun v21 => xb (xb (xp (0 : Int32)) fun v20 => F_X4_rowOf v20) fun v22 => xsr 5 13 v21 v22) fun _ =>
  (xb (xb (xp (some this)) fun v23 => xo 5 v23 fun q => F_X4_findDates q ) fun _ =>
  (xp ()))))))))))))
set_option maxRecDepth 100000 in
set_option maxHeartbeats 4000000 in
theorem M_X4_init (this : Nat) (zone_ : Option Nat) (firstDay_ : Int32) (hour_ : Int32) (length_ : Int32) : MM yX4_init cX4_init 5 none 3 64 3 184 encU [.ref this, va_rf zone_, .int firstDay_, .int hour_, .int length_] (F_X4_init this zone_ firstDay_ hour_ length_) := by
  refine MM_of (env0 := [(0, va_rf (some this)), (1, va_rf zone_), (2, .int firstDay_), (3, .int hour_), (4, .int length_)]) (by decide) (by cases zone_ <;> exact Nat.le_of_ble_eq_true rfl) (by cases zone_ <;> rfl) (fun k mm res X C hR hN hr hname h => ?_)
  have X : CX k cX4_init RX4 := X
  have hT : TH k (fun e m' => res = (.error e, m')) := TH_of C
  have htr := C.2.2.2.1
  unfold F_X4_init at h
  exact SB_go (T := fun e m' => res = (.error e, m')) (RET := fun v m' => res = (.ok v, m')) (SB_pre (env' := [(0, va_rf (some this)), (1, va_rf zone_), (2, .int firstDay_), (3, .int hour_), (4, .int length_)]) (S_super (j := 0) X dX4_init_0 rfl dX4_init_1 rfl ml_X4_3 oi_in oi_co (by rw [hR]; exact Nat.le_of_ble_eq_true rfl) (by rw [hR]; exact Nat.le_of_ble_eq_true rfl))
  (SB_do (XE_2 wR (L_aload_n (r := (some this)) 0 X dX4_init_4 rfl rfl) (L_iconst (v := 1) X dX4_init_5 (by decide)) (O_si (c := 5) (j := 5) tyX4 X rfl inW4 tyX4_ok nmX4 (by decide) fl_X4_9 (Or.inl rfl) rfl (by decide +kernel) dX4_init_6))
  (SB_do (XE_2 wR (L_aload_n (r := (some this)) 0 X dX4_init_9 rfl rfl) (L_bipush (v := (127)) X dX4_init_10 (by decide)) (O_si (c := 5) (j := 6) tyX4 X rfl inW4 tyX4_ok nmX4 (by decide) fl_X4_15 (Or.inl rfl) rfl (by decide +kernel) dX4_init_12))
  (SB_do (XE_2 wR (L_aload_n (r := (some this)) 0 X dX4_init_15 rfl rfl) (L_iconst (v := 1) X dX4_init_16 (by decide)) (O_si (c := 5) (j := 7) tyX4 X rfl inW4 tyX4_ok nmX4 (by decide) fl_X4_18 (Or.inl rfl) rfl (by decide +kernel) dX4_init_17))
  (SB_do (XE_2 wR (L_aload_n (r := (some this)) 0 X dX4_init_20 rfl rfl) (L_iconst (v := 0) X dX4_init_21 (by decide)) (O_si (c := 5) (j := 0) tyX4 X rfl inW4 tyX4_ok nmX4 (by decide) fl_X4_21 (Or.inr ⟨hname, rfl, rfl⟩) rfl (by decide +kernel) dX4_init_22))
  (SB_do (XE_2 wR (L_aload_n (r := (some this)) 0 X dX4_init_25 rfl rfl) (L_aload_n (r := zone_) 1 X dX4_init_26 rfl rfl) (O_sr (c := 5) (j := 1) tyX4 X rfl inW4 tyX4_ok nmX4 (by decide) fl_X4_24 (Or.inr ⟨hname, rfl, rfl⟩) rfl (by decide +kernel : parseFieldDescriptor (TX4 1).2.2.1 = some (.object "MeetingServer$Zone")) (Or.inl ⟨_, rfl⟩) dX4_init_27))
  (SB_do (XE_2 wR (L_aload_n (r := (some this)) 0 X dX4_init_30 rfl rfl) (L_iload_n (x := firstDay_) 2 X dX4_init_31 rfl rfl) (O_si (c := 5) (j := 2) tyX4 X rfl inW4 tyX4_ok nmX4 (by decide) fl_X4_28 (Or.inl rfl) rfl (by decide +kernel) dX4_init_32))
  (SB_do (XE_2 wR (L_aload_n (r := (some this)) 0 X dX4_init_35 rfl rfl) (L_iload_n (x := hour_) 3 X dX4_init_36 rfl rfl) (O_si (c := 5) (j := 3) tyX4 X rfl inW4 tyX4_ok nmX4 (by decide) fl_X4_31 (Or.inl rfl) rfl (by decide +kernel) dX4_init_37))
  (SB_do (XE_2 wR (L_aload_n (r := (some this)) 0 X dX4_init_40 rfl rfl) (L_iload (x := length_) 4 X dX4_init_41 rfl) (O_si (c := 5) (j := 4) tyX4 X rfl inW4 tyX4_ok nmX4 (by decide) fl_X4_34 (Or.inl rfl) rfl (by decide +kernel) dX4_init_43))
  (SB_do (XE_2 wR (L_aload_n (r := (some this)) 0 X dX4_init_46 rfl rfl) (XE_1 (pB := pR)  (L_iconst (v := (-1)) X dX4_init_47 (by decide)) (fun v0 st mm a b hd hc hs h => g_callS (st := st) X hT htr (M_X4_rowOf v0) lk_X4_rowOf st_X4_rowOf ml_X4_37 rfl (by rw [hR]; exact ⟨Nat.le_of_ble_eq_true rfl, Nat.le_of_ble_eq_true rfl⟩) (Nat.le_trans hd (by decide)) ⟨hc, hs⟩ dX4_init_48 h)) (O_sr (c := 5) (j := 12) tyX4 X rfl inW4 tyX4_ok nmX4 (by decide) fl_X4_41 (Or.inl rfl) rfl (by decide +kernel : parseFieldDescriptor (TX4 12).2.2.1 = some (.array .int)) (Or.inr ⟨_, rfl⟩) dX4_init_51))
  (SB_do (XE_2 wR (L_aload_n (r := (some this)) 0 X dX4_init_54 rfl rfl) (XE_1 (pB := pR)  (L_iconst (v := 0) X dX4_init_55 (by decide)) (fun v0 st mm a b hd hc hs h => g_callS (st := st) X hT htr (M_X4_rowOf v0) lk_X4_rowOf st_X4_rowOf ml_X4_37 rfl (by rw [hR]; exact ⟨Nat.le_of_ble_eq_true rfl, Nat.le_of_ble_eq_true rfl⟩) (Nat.le_trans hd (by decide)) ⟨hc, hs⟩ dX4_init_56 h)) (O_sr (c := 5) (j := 13) tyX4 X rfl inW4 tyX4_ok nmX4 (by decide) fl_X4_45 (Or.inl rfl) rfl (by decide +kernel : parseFieldDescriptor (TX4 13).2.2.1 = some (.array .int)) (Or.inr ⟨_, rfl⟩) dX4_init_59))
  (SB_do (XE_1 (pB := pU)  (L_aload_n (r := (some this)) 0 X dX4_init_62 rfl rfl) (fun v0 st mm a b hd hc hs h => g_callVo (st := st) (cI := 5) X hT htr rfl (fun q => M_X4_findDates q ) lk_X4_findDates im_X4_findDates se_X4_findDates ml_X4_48 rfl (by rw [hR]; exact ⟨Nat.le_of_ble_eq_true rfl, Nat.le_of_ble_eq_true rfl⟩) (Nat.le_trans hd (by decide)) ⟨hc, hs⟩ dX4_init_63 h))
  (SB_retU X C hr dX4_init_66))))))))))))) h (by rw [hR]; decide) (by rw [hR]; decide)
theorem dX4_init__0 : decode cX4_init_ 0 = .ok (.aload_n 0, 1) := by decide +kernel
theorem dX4_init__1 : decode cX4_init_ 1 = .ok (.invokespecial 3, 3) := by decide +kernel
theorem dX4_init__4 : decode cX4_init_ 4 = .ok (.aload_n 0, 1) := by decide +kernel
theorem dX4_init__5 : decode cX4_init_ 5 = .ok (.iconst 1, 1) := by decide +kernel
theorem dX4_init__6 : decode cX4_init_ 6 = .ok (.putfield 9, 3) := by decide +kernel
theorem dX4_init__9 : decode cX4_init_ 9 = .ok (.aload_n 0, 1) := by decide +kernel
theorem dX4_init__10 : decode cX4_init_ 10 = .ok (.bipush 127, 2) := by decide +kernel
theorem dX4_init__12 : decode cX4_init_ 12 = .ok (.putfield 15, 3) := by decide +kernel
theorem dX4_init__15 : decode cX4_init_ 15 = .ok (.aload_n 0, 1) := by decide +kernel
theorem dX4_init__16 : decode cX4_init_ 16 = .ok (.iconst 1, 1) := by decide +kernel
theorem dX4_init__17 : decode cX4_init_ 17 = .ok (.putfield 18, 3) := by decide +kernel
theorem dX4_init__20 : decode cX4_init_ 20 = .ok (.aload_n 0, 1) := by decide +kernel
theorem dX4_init__21 : decode cX4_init_ 21 = .ok (.aload_n 1, 1) := by decide +kernel
theorem dX4_init__22 : decode cX4_init_ 22 = .ok (.getfield 21, 3) := by decide +kernel
theorem dX4_init__25 : decode cX4_init_ 25 = .ok (.iconst 1, 1) := by decide +kernel
theorem dX4_init__26 : decode cX4_init_ 26 = .ok (.iadd, 1) := by decide +kernel
theorem dX4_init__27 : decode cX4_init_ 27 = .ok (.putfield 21, 3) := by decide +kernel
theorem dX4_init__30 : decode cX4_init_ 30 = .ok (.aload_n 0, 1) := by decide +kernel
theorem dX4_init__31 : decode cX4_init_ 31 = .ok (.aload_n 1, 1) := by decide +kernel
theorem dX4_init__32 : decode cX4_init_ 32 = .ok (.getfield 24, 3) := by decide +kernel
theorem dX4_init__35 : decode cX4_init_ 35 = .ok (.putfield 24, 3) := by decide +kernel
theorem dX4_init__38 : decode cX4_init_ 38 = .ok (.aload_n 0, 1) := by decide +kernel
theorem dX4_init__39 : decode cX4_init_ 39 = .ok (.aload_n 1, 1) := by decide +kernel
theorem dX4_init__40 : decode cX4_init_ 40 = .ok (.getfield 28, 3) := by decide +kernel
theorem dX4_init__43 : decode cX4_init_ 43 = .ok (.putfield 28, 3) := by decide +kernel
theorem dX4_init__46 : decode cX4_init_ 46 = .ok (.aload_n 0, 1) := by decide +kernel
theorem dX4_init__47 : decode cX4_init_ 47 = .ok (.aload_n 1, 1) := by decide +kernel
theorem dX4_init__48 : decode cX4_init_ 48 = .ok (.getfield 31, 3) := by decide +kernel
theorem dX4_init__51 : decode cX4_init_ 51 = .ok (.putfield 31, 3) := by decide +kernel
theorem dX4_init__54 : decode cX4_init_ 54 = .ok (.aload_n 0, 1) := by decide +kernel
theorem dX4_init__55 : decode cX4_init_ 55 = .ok (.aload_n 1, 1) := by decide +kernel
theorem dX4_init__56 : decode cX4_init_ 56 = .ok (.getfield 34, 3) := by decide +kernel
theorem dX4_init__59 : decode cX4_init_ 59 = .ok (.putfield 34, 3) := by decide +kernel
theorem dX4_init__62 : decode cX4_init_ 62 = .ok (.aload_n 0, 1) := by decide +kernel
theorem dX4_init__63 : decode cX4_init_ 63 = .ok (.aload_n 1, 1) := by decide +kernel
theorem dX4_init__64 : decode cX4_init_ 64 = .ok (.getfield 9, 3) := by decide +kernel
theorem dX4_init__67 : decode cX4_init_ 67 = .ok (.putfield 9, 3) := by decide +kernel
theorem dX4_init__70 : decode cX4_init_ 70 = .ok (.aload_n 0, 1) := by decide +kernel
theorem dX4_init__71 : decode cX4_init_ 71 = .ok (.aload_n 1, 1) := by decide +kernel
theorem dX4_init__72 : decode cX4_init_ 72 = .ok (.getfield 15, 3) := by decide +kernel
theorem dX4_init__75 : decode cX4_init_ 75 = .ok (.putfield 15, 3) := by decide +kernel
theorem dX4_init__78 : decode cX4_init_ 78 = .ok (.aload_n 0, 1) := by decide +kernel
theorem dX4_init__79 : decode cX4_init_ 79 = .ok (.aload_n 1, 1) := by decide +kernel
theorem dX4_init__80 : decode cX4_init_ 80 = .ok (.getfield 18, 3) := by decide +kernel
theorem dX4_init__83 : decode cX4_init_ 83 = .ok (.putfield 18, 3) := by decide +kernel
theorem dX4_init__86 : decode cX4_init_ 86 = .ok (.aload_n 0, 1) := by decide +kernel
theorem dX4_init__87 : decode cX4_init_ 87 = .ok (.aload_n 1, 1) := by decide +kernel
theorem dX4_init__88 : decode cX4_init_ 88 = .ok (.getfield 51, 3) := by decide +kernel
theorem dX4_init__91 : decode cX4_init_ 91 = .ok (.putfield 51, 3) := by decide +kernel
theorem dX4_init__94 : decode cX4_init_ 94 = .ok (.aload_n 0, 1) := by decide +kernel
theorem dX4_init__95 : decode cX4_init_ 95 = .ok (.aload_n 1, 1) := by decide +kernel
theorem dX4_init__96 : decode cX4_init_ 96 = .ok (.getfield 55, 3) := by decide +kernel
theorem dX4_init__99 : decode cX4_init_ 99 = .ok (.putfield 55, 3) := by decide +kernel
theorem dX4_init__102 : decode cX4_init_ 102 = .ok (.aload_n 0, 1) := by decide +kernel
theorem dX4_init__103 : decode cX4_init_ 103 = .ok (.aload_n 1, 1) := by decide +kernel
theorem dX4_init__104 : decode cX4_init_ 104 = .ok (.getfield 58, 3) := by decide +kernel
theorem dX4_init__107 : decode cX4_init_ 107 = .ok (.putfield 58, 3) := by decide +kernel
theorem dX4_init__110 : decode cX4_init_ 110 = .ok (.aload_n 0, 1) := by decide +kernel
theorem dX4_init__111 : decode cX4_init_ 111 = .ok (.aload_n 1, 1) := by decide +kernel
theorem dX4_init__112 : decode cX4_init_ 112 = .ok (.getfield 61, 3) := by decide +kernel
theorem dX4_init__115 : decode cX4_init_ 115 = .ok (.putfield 61, 3) := by decide +kernel
theorem dX4_init__118 : decode cX4_init_ 118 = .ok (.aload_n 0, 1) := by decide +kernel
theorem dX4_init__119 : decode cX4_init_ 119 = .ok (.aload_n 1, 1) := by decide +kernel
theorem dX4_init__120 : decode cX4_init_ 120 = .ok (.getfield 41, 3) := by decide +kernel
theorem dX4_init__123 : decode cX4_init_ 123 = .ok (.putfield 41, 3) := by decide +kernel
theorem dX4_init__126 : decode cX4_init_ 126 = .ok (.aload_n 0, 1) := by decide +kernel
theorem dX4_init__127 : decode cX4_init_ 127 = .ok (.aload_n 1, 1) := by decide +kernel
theorem dX4_init__128 : decode cX4_init_ 128 = .ok (.getfield 45, 3) := by decide +kernel
theorem dX4_init__131 : decode cX4_init_ 131 = .ok (.putfield 45, 3) := by decide +kernel
theorem dX4_init__134 : decode cX4_init_ 134 = .ok (.aload_n 0, 1) := by decide +kernel
theorem dX4_init__135 : decode cX4_init_ 135 = .ok (.aload_n 1, 1) := by decide +kernel
theorem dX4_init__136 : decode cX4_init_ 136 = .ok (.getfield 64, 3) := by decide +kernel
theorem dX4_init__139 : decode cX4_init_ 139 = .ok (.putfield 64, 3) := by decide +kernel
theorem dX4_init__142 : decode cX4_init_ 142 = .ok (.aload_n 0, 1) := by decide +kernel
theorem dX4_init__143 : decode cX4_init_ 143 = .ok (.aload_n 1, 1) := by decide +kernel
theorem dX4_init__144 : decode cX4_init_ 144 = .ok (.getfield 67, 3) := by decide +kernel
theorem dX4_init__147 : decode cX4_init_ 147 = .ok (.putfield 67, 3) := by decide +kernel
theorem dX4_init__150 : decode cX4_init_ 150 = .ok (.aload_n 0, 1) := by decide +kernel
theorem dX4_init__151 : decode cX4_init_ 151 = .ok (.aload_n 1, 1) := by decide +kernel
theorem dX4_init__152 : decode cX4_init_ 152 = .ok (.getfield 70, 3) := by decide +kernel
theorem dX4_init__155 : decode cX4_init_ 155 = .ok (.putfield 70, 3) := by decide +kernel
theorem dX4_init__158 : decode cX4_init_ 158 = .ok (.return_, 1) := by decide +kernel
theorem lk_X4_init_ : LK yX4_init_ cX4_init_ 2 none 1 := ⟨qW_at 1070 (by decide +kernel) rfl, qW_at 42 (by decide +kernel) rfl, by decide, by decide, by decide +kernel⟩
theorem im_X4_init_ : Cond.instanceMethod yX4_init_ ∈ qW := qW_at 1069 (by decide +kernel) rfl
def F_X4_init_ (this : Nat) (before_ : Option Nat) : QX Unit :=
  (xb (xb (xp (some this)) fun v1 => xb (xp (1 : Int32)) fun v2 => xsi 5 5 v1 v2) fun _ =>
  (xb (xb (xp (some this)) fun v3 => xb (xp (127 : Int32)) fun v4 => xsi 5 6 v3 v4) fun _ =>
  (xb (xb (xp (some this)) fun v5 => xb (xp (1 : Int32)) fun v6 => xsi 5 7 v5 v6) fun _ =>
  (xb (xb (xp (some this)) fun v10 => xb (xb (xb (xp before_) fun v7 => xgi 5 0 v7) fun v8 => xb (xp (1 : Int32)) fun v9 => (xp (v8 + v9))) fun v11 => xsi 5 0 v10 v11) fun _ =>
  (xb (xb (xp (some this)) fun v13 => xb (xb (xp before_) fun v12 => xgr 5 1 v12) fun v14 => xsr 5 1 v13 v14) fun _ =>
  (xb (xb (xp (some this)) fun v16 => xb (xb (xp before_) fun v15 => xgi 5 2 v15) fun v17 => xsi 5 2 v16 v17) fun _ =>
  (xb (xb (xp (some this)) fun v19 => xb (xb (xp before_) fun v18 => xgi 5 3 v18) fun v20 => xsi 5 3 v19 v20) fun _ =>
  (xb (xb (xp (some this)) fun v22 => xb (xb (xp before_) fun v21 => xgi 5 4 v21) fun v23 => xsi 5 4 v22 v23) fun _ =>
  (xb (xb (xp (some this)) fun v25 => xb (xb (xp before_) fun v24 => xgi 5 5 v24) fun v26 => xsi 5 5 v25 v26) fun _ =>
  (xb (xb (xp (some this)) fun v28 => xb (xb (xp before_) fun v27 => xgi 5 6 v27) fun v29 => xsi 5 6 v28 v29) fun _ =>
  (xb (xb (xp (some this)) fun v31 => xb (xb (xp before_) fun v30 => xgi 5 7 v30) fun v32 => xsi 5 7 v31 v32) fun _ =>
  (xb (xb (xp (some this)) fun v34 => xb (xb (xp before_) fun v33 => xgl 5 8 v33) fun v35 => xsl 5 8 v34 v35) fun _ =>
  (xb (xb (xp (some this)) fun v37 => xb (xb (xp before_) fun v36 => xgl 5 9 v36) fun v38 => xsl 5 9 v37 v38) fun _ =>
  (xb (xb (xp (some this)) fun v40 => xb (xb (xp before_) fun v39 => xgl 5 10 v39) fun v41 => xsl 5 10 v40 v41) fun _ =>
  (xb (xb (xp (some this)) fun v43 => xb (xb (xp before_) fun v42 => xgr 5 11 v42) fun v44 => xsr 5 11 v43 v44) fun _ =>
  (xb (xb (xp (some this)) fun v46 => xb (xb (xp before_) fun v45 => xgr 5 12 v45) fun v47 => xsr 5 12 v46 v47) fun _ =>
  (xb (xb (xp (some this)) fun v49 => xb (xb (xp before_) fun v48 => xgr 5 13 v48) fun v50 => xsr 5 13 v49 v50) fun _ =>
  (xb (xb (xp (some this)) fun v52 => xb (xb (xp before_) fun v51 => xgi 5 14 v51) fun v53 => xsi 5 14 v52 v53) fun _ =>
  (xb (xb (xp (some this)) fun v55 => xb (xb (xp before_) fun v54 => xgi 5 15 v54) fun v56 => xsi 5 15 v55 v56) fun _ =>
  (xb (xb (xp (some this)) fun v58 => xb (xb (xp before_) fun v57 => xgi 5 16 v57) fun v59 => xsz 5 16 v58 v59) fun _ =>
  (xp ())))))))))))))))))))))
set_option maxRecDepth 100000 in
set_option maxHeartbeats 4000000 in
theorem M_X4_init_ (this : Nat) (before_ : Option Nat) : MM yX4_init_ cX4_init_ 2 none 1 12 0 0 encU [.ref this, va_rf before_] (F_X4_init_ this before_) := by
  refine MM_of (env0 := [(0, va_rf (some this)), (1, va_rf before_)]) (by decide) (by cases before_ <;> exact Nat.le_of_ble_eq_true rfl) (by cases before_ <;> rfl) (fun k mm res X C hR hN hr hname h => ?_)
  have X : CX k cX4_init_ RX4 := X
  have hT : TH k (fun e m' => res = (.error e, m')) := TH_of C
  have htr := C.2.2.2.1
  unfold F_X4_init_ at h
  exact SB_go (T := fun e m' => res = (.error e, m')) (RET := fun v m' => res = (.ok v, m')) (SB_pre (env' := [(0, va_rf (some this)), (1, va_rf before_)]) (S_super (j := 0) X dX4_init__0 rfl dX4_init__1 rfl ml_X4_3 oi_in oi_co (by rw [hR]; exact Nat.le_of_ble_eq_true rfl) (by rw [hR]; exact Nat.le_of_ble_eq_true rfl))
  (SB_do (XE_2 wR (L_aload_n (r := (some this)) 0 X dX4_init__4 rfl rfl) (L_iconst (v := 1) X dX4_init__5 (by decide)) (O_si (c := 5) (j := 5) tyX4 X rfl inW4 tyX4_ok nmX4 (by decide) fl_X4_9 (Or.inl rfl) rfl (by decide +kernel) dX4_init__6))
  (SB_do (XE_2 wR (L_aload_n (r := (some this)) 0 X dX4_init__9 rfl rfl) (L_bipush (v := (127)) X dX4_init__10 (by decide)) (O_si (c := 5) (j := 6) tyX4 X rfl inW4 tyX4_ok nmX4 (by decide) fl_X4_15 (Or.inl rfl) rfl (by decide +kernel) dX4_init__12))
  (SB_do (XE_2 wR (L_aload_n (r := (some this)) 0 X dX4_init__15 rfl rfl) (L_iconst (v := 1) X dX4_init__16 (by decide)) (O_si (c := 5) (j := 7) tyX4 X rfl inW4 tyX4_ok nmX4 (by decide) fl_X4_18 (Or.inl rfl) rfl (by decide +kernel) dX4_init__17))
  (SB_do (XE_2 wR (L_aload_n (r := (some this)) 0 X dX4_init__20 rfl rfl) (XE_2 wI (XE_1 (L_aload_n (r := before_) 1 X dX4_init__21 rfl rfl) (O_gi (c := 5) (j := 0) X rfl inW4 (by decide) fl_X4_21 rfl dX4_init__22)) (L_iconst (v := 1) X dX4_init__25 (by decide)) (O_iadd X dX4_init__26)) (O_si (c := 5) (j := 0) tyX4 X rfl inW4 tyX4_ok nmX4 (by decide) fl_X4_21 (Or.inr ⟨hname, rfl, rfl⟩) rfl (by decide +kernel) dX4_init__27))
  (SB_do (XE_2 wR (L_aload_n (r := (some this)) 0 X dX4_init__30 rfl rfl) (XE_1 (L_aload_n (r := before_) 1 X dX4_init__31 rfl rfl) (O_gr (c := 5) (j := 1) X rfl inW4 (by decide) fl_X4_24 rfl dX4_init__32)) (O_sr (c := 5) (j := 1) tyX4 X rfl inW4 tyX4_ok nmX4 (by decide) fl_X4_24 (Or.inr ⟨hname, rfl, rfl⟩) rfl (by decide +kernel : parseFieldDescriptor (TX4 1).2.2.1 = some (.object "MeetingServer$Zone")) (Or.inl ⟨_, rfl⟩) dX4_init__35))
  (SB_do (XE_2 wR (L_aload_n (r := (some this)) 0 X dX4_init__38 rfl rfl) (XE_1 (L_aload_n (r := before_) 1 X dX4_init__39 rfl rfl) (O_gi (c := 5) (j := 2) X rfl inW4 (by decide) fl_X4_28 rfl dX4_init__40)) (O_si (c := 5) (j := 2) tyX4 X rfl inW4 tyX4_ok nmX4 (by decide) fl_X4_28 (Or.inl rfl) rfl (by decide +kernel) dX4_init__43))
  (SB_do (XE_2 wR (L_aload_n (r := (some this)) 0 X dX4_init__46 rfl rfl) (XE_1 (L_aload_n (r := before_) 1 X dX4_init__47 rfl rfl) (O_gi (c := 5) (j := 3) X rfl inW4 (by decide) fl_X4_31 rfl dX4_init__48)) (O_si (c := 5) (j := 3) tyX4 X rfl inW4 tyX4_ok nmX4 (by decide) fl_X4_31 (Or.inl rfl) rfl (by decide +kernel) dX4_init__51))
  (SB_do (XE_2 wR (L_aload_n (r := (some this)) 0 X dX4_init__54 rfl rfl) (XE_1 (L_aload_n (r := before_) 1 X dX4_init__55 rfl rfl) (O_gi (c := 5) (j := 4) X rfl inW4 (by decide) fl_X4_34 rfl dX4_init__56)) (O_si (c := 5) (j := 4) tyX4 X rfl inW4 tyX4_ok nmX4 (by decide) fl_X4_34 (Or.inl rfl) rfl (by decide +kernel) dX4_init__59))
  (SB_do (XE_2 wR (L_aload_n (r := (some this)) 0 X dX4_init__62 rfl rfl) (XE_1 (L_aload_n (r := before_) 1 X dX4_init__63 rfl rfl) (O_gi (c := 5) (j := 5) X rfl inW4 (by decide) fl_X4_9 rfl dX4_init__64)) (O_si (c := 5) (j := 5) tyX4 X rfl inW4 tyX4_ok nmX4 (by decide) fl_X4_9 (Or.inl rfl) rfl (by decide +kernel) dX4_init__67))
  (SB_do (XE_2 wR (L_aload_n (r := (some this)) 0 X dX4_init__70 rfl rfl) (XE_1 (L_aload_n (r := before_) 1 X dX4_init__71 rfl rfl) (O_gi (c := 5) (j := 6) X rfl inW4 (by decide) fl_X4_15 rfl dX4_init__72)) (O_si (c := 5) (j := 6) tyX4 X rfl inW4 tyX4_ok nmX4 (by decide) fl_X4_15 (Or.inl rfl) rfl (by decide +kernel) dX4_init__75))
  (SB_do (XE_2 wR (L_aload_n (r := (some this)) 0 X dX4_init__78 rfl rfl) (XE_1 (L_aload_n (r := before_) 1 X dX4_init__79 rfl rfl) (O_gi (c := 5) (j := 7) X rfl inW4 (by decide) fl_X4_18 rfl dX4_init__80)) (O_si (c := 5) (j := 7) tyX4 X rfl inW4 tyX4_ok nmX4 (by decide) fl_X4_18 (Or.inl rfl) rfl (by decide +kernel) dX4_init__83))
  (SB_do (XE_2 wR (L_aload_n (r := (some this)) 0 X dX4_init__86 rfl rfl) (XE_1 (L_aload_n (r := before_) 1 X dX4_init__87 rfl rfl) (O_gl (c := 5) (j := 8) X rfl inW4 (by decide) fl_X4_51 rfl dX4_init__88)) (O_sl (c := 5) (j := 8) tyX4 X rfl inW4 tyX4_ok nmX4 (by decide) fl_X4_51 (Or.inl rfl) rfl (by decide +kernel) dX4_init__91))
  (SB_do (XE_2 wR (L_aload_n (r := (some this)) 0 X dX4_init__94 rfl rfl) (XE_1 (L_aload_n (r := before_) 1 X dX4_init__95 rfl rfl) (O_gl (c := 5) (j := 9) X rfl inW4 (by decide) fl_X4_55 rfl dX4_init__96)) (O_sl (c := 5) (j := 9) tyX4 X rfl inW4 tyX4_ok nmX4 (by decide) fl_X4_55 (Or.inl rfl) rfl (by decide +kernel) dX4_init__99))
  (SB_do (XE_2 wR (L_aload_n (r := (some this)) 0 X dX4_init__102 rfl rfl) (XE_1 (L_aload_n (r := before_) 1 X dX4_init__103 rfl rfl) (O_gl (c := 5) (j := 10) X rfl inW4 (by decide) fl_X4_58 rfl dX4_init__104)) (O_sl (c := 5) (j := 10) tyX4 X rfl inW4 tyX4_ok nmX4 (by decide) fl_X4_58 (Or.inl rfl) rfl (by decide +kernel) dX4_init__107))
  (SB_do (XE_2 wR (L_aload_n (r := (some this)) 0 X dX4_init__110 rfl rfl) (XE_1 (L_aload_n (r := before_) 1 X dX4_init__111 rfl rfl) (O_gr (c := 5) (j := 11) X rfl inW4 (by decide) fl_X4_61 rfl dX4_init__112)) (O_sr (c := 5) (j := 11) tyX4 X rfl inW4 tyX4_ok nmX4 (by decide) fl_X4_61 (Or.inl rfl) rfl (by decide +kernel : parseFieldDescriptor (TX4 11).2.2.1 = some (.array .int)) (Or.inr ⟨_, rfl⟩) dX4_init__115))
  (SB_do (XE_2 wR (L_aload_n (r := (some this)) 0 X dX4_init__118 rfl rfl) (XE_1 (L_aload_n (r := before_) 1 X dX4_init__119 rfl rfl) (O_gr (c := 5) (j := 12) X rfl inW4 (by decide) fl_X4_41 rfl dX4_init__120)) (O_sr (c := 5) (j := 12) tyX4 X rfl inW4 tyX4_ok nmX4 (by decide) fl_X4_41 (Or.inl rfl) rfl (by decide +kernel : parseFieldDescriptor (TX4 12).2.2.1 = some (.array .int)) (Or.inr ⟨_, rfl⟩) dX4_init__123))
  (SB_do (XE_2 wR (L_aload_n (r := (some this)) 0 X dX4_init__126 rfl rfl) (XE_1 (L_aload_n (r := before_) 1 X dX4_init__127 rfl rfl) (O_gr (c := 5) (j := 13) X rfl inW4 (by decide) fl_X4_45 rfl dX4_init__128)) (O_sr (c := 5) (j := 13) tyX4 X rfl inW4 tyX4_ok nmX4 (by decide) fl_X4_45 (Or.inl rfl) rfl (by decide +kernel : parseFieldDescriptor (TX4 13).2.2.1 = some (.array .int)) (Or.inr ⟨_, rfl⟩) dX4_init__131))
  (SB_do (XE_2 wR (L_aload_n (r := (some this)) 0 X dX4_init__134 rfl rfl) (XE_1 (L_aload_n (r := before_) 1 X dX4_init__135 rfl rfl) (O_gi (c := 5) (j := 14) X rfl inW4 (by decide) fl_X4_64 rfl dX4_init__136)) (O_si (c := 5) (j := 14) tyX4 X rfl inW4 tyX4_ok nmX4 (by decide) fl_X4_64 (Or.inl rfl) rfl (by decide +kernel) dX4_init__139))
  (SB_do (XE_2 wR (L_aload_n (r := (some this)) 0 X dX4_init__142 rfl rfl) (XE_1 (L_aload_n (r := before_) 1 X dX4_init__143 rfl rfl) (O_gi (c := 5) (j := 15) X rfl inW4 (by decide) fl_X4_67 rfl dX4_init__144)) (O_si (c := 5) (j := 15) tyX4 X rfl inW4 tyX4_ok nmX4 (by decide) fl_X4_67 (Or.inl rfl) rfl (by decide +kernel) dX4_init__147))
  (SB_do (XE_2 wR (L_aload_n (r := (some this)) 0 X dX4_init__150 rfl rfl) (XE_1 (L_aload_n (r := before_) 1 X dX4_init__151 rfl rfl) (O_gi (c := 5) (j := 16) X rfl inW4 (by decide) fl_X4_70 rfl dX4_init__152)) (O_sz (c := 5) (j := 16) tyX4 X rfl inW4 tyX4_ok nmX4 (by decide) fl_X4_70 (Or.inl rfl) rfl (by decide +kernel) dX4_init__155))
  (SB_retU X C hr dX4_init__158)))))))))))))))))))))) h (by rw [hR]; decide) (by rw [hR]; decide)
theorem dX4_withTime_0 : decode cX4_withTime 0 = .ok (.new 10, 3) := by decide +kernel
theorem dX4_withTime_3 : decode cX4_withTime 3 = .ok (.dup, 1) := by decide +kernel
theorem dX4_withTime_4 : decode cX4_withTime 4 = .ok (.aload_n 0, 1) := by decide +kernel
theorem dX4_withTime_5 : decode cX4_withTime 5 = .ok (.invokespecial 74, 3) := by decide +kernel
theorem dX4_withTime_8 : decode cX4_withTime 8 = .ok (.astore 4, 2) := by decide +kernel
theorem dX4_withTime_10 : decode cX4_withTime 10 = .ok (.aload 4, 2) := by decide +kernel
theorem dX4_withTime_12 : decode cX4_withTime 12 = .ok (.iload_n 1, 1) := by decide +kernel
theorem dX4_withTime_13 : decode cX4_withTime 13 = .ok (.putfield 28, 3) := by decide +kernel
theorem dX4_withTime_16 : decode cX4_withTime 16 = .ok (.aload 4, 2) := by decide +kernel
theorem dX4_withTime_18 : decode cX4_withTime 18 = .ok (.iload_n 2, 1) := by decide +kernel
theorem dX4_withTime_19 : decode cX4_withTime 19 = .ok (.putfield 31, 3) := by decide +kernel
theorem dX4_withTime_22 : decode cX4_withTime 22 = .ok (.aload 4, 2) := by decide +kernel
theorem dX4_withTime_24 : decode cX4_withTime 24 = .ok (.iload_n 3, 1) := by decide +kernel
theorem dX4_withTime_25 : decode cX4_withTime 25 = .ok (.putfield 34, 3) := by decide +kernel
theorem dX4_withTime_28 : decode cX4_withTime 28 = .ok (.aload 4, 2) := by decide +kernel
theorem dX4_withTime_30 : decode cX4_withTime 30 = .ok (.aload 4, 2) := by decide +kernel
theorem dX4_withTime_32 : decode cX4_withTime 32 = .ok (.getfield 21, 3) := by decide +kernel
theorem dX4_withTime_35 : decode cX4_withTime 35 = .ok (.invokestatic 37, 3) := by decide +kernel
theorem dX4_withTime_38 : decode cX4_withTime 38 = .ok (.putfield 45, 3) := by decide +kernel
theorem dX4_withTime_41 : decode cX4_withTime 41 = .ok (.aload 4, 2) := by decide +kernel
theorem dX4_withTime_43 : decode cX4_withTime 43 = .ok (.invokevirtual 48, 3) := by decide +kernel
theorem dX4_withTime_46 : decode cX4_withTime 46 = .ok (.aload 4, 2) := by decide +kernel
theorem dX4_withTime_48 : decode cX4_withTime 48 = .ok (.areturn, 1) := by decide +kernel
theorem lk_X4_withTime : LK yX4_withTime cX4_withTime 5 (some (.object "MeetingServer$Version")) 3 := ⟨qW_at 1066 (by decide +kernel) rfl, qW_at 42 (by decide +kernel) rfl, by decide, by decide, by decide +kernel⟩
theorem im_X4_withTime : Cond.instanceMethod yX4_withTime ∈ qW := qW_at 1064 (by decide +kernel) rfl
theorem se_X4_withTime : Cond.selects RX4 yX4_withTime yX4_withTime ∈ qW := qW_at 1065 (by decide +kernel) rfl
def F_X4_withTime (this : Nat) (newFirstDay_ : Int32) (newHour_ : Int32) (newLength_ : Int32) : QX (Option Nat) :=
  (xb (xb (xnew 5) fun r1 => xb (xb (xp (some this)) fun v2 => xo 5 r1 fun q => F_X4_init_ q v2) fun _ => xp r1) fun next_4 =>
  (xb (xb (xp next_4) fun v5 => xb (xp newFirstDay_) fun v6 => xsi 5 2 v5 v6) fun _ =>
  (xb (xb (xp next_4) fun v7 => xb (xp newHour_) fun v8 => xsi 5 3 v7 v8) fun _ =>
  (xb (xb (xp next_4) fun v9 => xb (xp newLength_) fun v10 => xsi 5 4 v9 v10) fun _ =>
  (xb (xb (xp next_4) fun v13 => xb (xb (xb (xp next_4) fun v11 => xgi 5 0 v11) fun v12 => F_X4_rowOf v12) fun v14 => xsr 5 13 v13 v14) fun _ =>
  (xb (xb (xp next_4) fun v15 => xo 5 v15 fun q => F_X4_findDates q ) fun _ =>
  (xp next_4)))))))
set_option maxRecDepth 100000 in
set_option maxHeartbeats 4000000 in
theorem M_X4_withTime (this : Nat) (newFirstDay_ : Int32) (newHour_ : Int32) (newLength_ : Int32) : MM yX4_withTime cX4_withTime 5 (some (.object "MeetingServer$Version")) 3 64 3 141 encR [.ref this, .int newFirstDay_, .int newHour_, .int newLength_] (F_X4_withTime this newFirstDay_ newHour_ newLength_) := by
  refine MM_of (env0 := [(0, va_rf (some this)), (1, .int newFirstDay_), (2, .int newHour_), (3, .int newLength_)]) (by decide) (by exact Nat.le_of_ble_eq_true rfl) (by rfl) (fun k mm res X C hR hN hr hname h => ?_)
  have X : CX k cX4_withTime RX4 := X
  have hT : TH k (fun e m' => res = (.error e, m')) := TH_of C
  have htr := C.2.2.2.1
  unfold F_X4_withTime at h
  exact SB_go (T := fun e m' => res = (.error e, m')) (RET := fun v m' => res = (.ok v, m')) (SB_let (XE_new (c := 5) (ks0 := 17) (kc0 := 1) (fun st mm a b hc hs h => g_new (c := 5) tyX4 X rfl inW4 tyX4_ok cl_X4_10 in_4 ii_4 (by decide +kernel) hc hs dX4_withTime_0 h) (S_dup X dX4_withTime_3) (OP_args1  (L_aload_n (r := (some this)) 0 X dX4_withTime_4 rfl rfl) (fun r v0 st mm a b hd hc hs h => g_callIo (st := st) (cI := 5) X hT htr (fun q => M_X4_init_ q v0) lk_X4_init_ im_X4_init_ rfl ml_X4_74 rfl (by rw [hR]; exact ⟨Nat.le_of_ble_eq_true rfl, Nat.le_of_ble_eq_true rfl⟩) (Nat.le_trans hd (by decide)) ⟨hc, hs⟩ dX4_withTime_5 h)) rfl) (S_astore (ev := fun next_4 => [(4, va_rf next_4), (0, va_rf (some this)), (1, .int newFirstDay_), (2, .int newHour_), (3, .int newLength_)]) X dX4_withTime_8 (by rw [hN]; decide) (fun _ => rfl)) fun next_4 =>
  (SB_do (XE_2 wR (L_aload (r := next_4) 0 X dX4_withTime_10 rfl) (L_iload_n (x := newFirstDay_) 2 X dX4_withTime_12 rfl rfl) (O_si (c := 5) (j := 2) tyX4 X rfl inW4 tyX4_ok nmX4 (by decide) fl_X4_28 (Or.inl rfl) rfl (by decide +kernel) dX4_withTime_13))
  (SB_do (XE_2 wR (L_aload (r := next_4) 0 X dX4_withTime_16 rfl) (L_iload_n (x := newHour_) 3 X dX4_withTime_18 rfl rfl) (O_si (c := 5) (j := 3) tyX4 X rfl inW4 tyX4_ok nmX4 (by decide) fl_X4_31 (Or.inl rfl) rfl (by decide +kernel) dX4_withTime_19))
  (SB_do (XE_2 wR (L_aload (r := next_4) 0 X dX4_withTime_22 rfl) (L_iload_n (x := newLength_) 4 X dX4_withTime_24 rfl rfl) (O_si (c := 5) (j := 4) tyX4 X rfl inW4 tyX4_ok nmX4 (by decide) fl_X4_34 (Or.inl rfl) rfl (by decide +kernel) dX4_withTime_25))
  (SB_do (XE_2 wR (L_aload (r := next_4) 0 X dX4_withTime_28 rfl) (XE_1 (pB := pR)  (XE_1 (L_aload (r := next_4) 0 X dX4_withTime_30 rfl) (O_gi (c := 5) (j := 0) X rfl inW4 (by decide) fl_X4_21 rfl dX4_withTime_32)) (fun v0 st mm a b hd hc hs h => g_callS (st := st) X hT htr (M_X4_rowOf v0) lk_X4_rowOf st_X4_rowOf ml_X4_37 rfl (by rw [hR]; exact ⟨Nat.le_of_ble_eq_true rfl, Nat.le_of_ble_eq_true rfl⟩) (Nat.le_trans hd (by decide)) ⟨hc, hs⟩ dX4_withTime_35 h)) (O_sr (c := 5) (j := 13) tyX4 X rfl inW4 tyX4_ok nmX4 (by decide) fl_X4_45 (Or.inl rfl) rfl (by decide +kernel : parseFieldDescriptor (TX4 13).2.2.1 = some (.array .int)) (Or.inr ⟨_, rfl⟩) dX4_withTime_38))
  (SB_do (XE_1 (pB := pU)  (L_aload (r := next_4) 0 X dX4_withTime_41 rfl) (fun v0 st mm a b hd hc hs h => g_callVo (st := st) (cI := 5) X hT htr rfl (fun q => M_X4_findDates q ) lk_X4_findDates im_X4_findDates se_X4_findDates ml_X4_48 rfl (by rw [hR]; exact ⟨Nat.le_of_ble_eq_true rfl, Nat.le_of_ble_eq_true rfl⟩) (Nat.le_trans hd (by decide)) ⟨hc, hs⟩ dX4_withTime_43 h))
  (SB_retR X C hr (Or.inl ⟨_, rfl⟩) dX4_withTime_48 (L_aload (r := next_4) 0 X dX4_withTime_46 rfl)))))))) h (by rw [hR]; decide) (by rw [hR]; decide)
theorem dX4_withRule_0 : decode cX4_withRule 0 = .ok (.new 10, 3) := by decide +kernel
theorem dX4_withRule_3 : decode cX4_withRule 3 = .ok (.dup, 1) := by decide +kernel
theorem dX4_withRule_4 : decode cX4_withRule 4 = .ok (.aload_n 0, 1) := by decide +kernel
theorem dX4_withRule_5 : decode cX4_withRule 5 = .ok (.invokespecial 74, 3) := by decide +kernel
theorem dX4_withRule_8 : decode cX4_withRule 8 = .ok (.astore 4, 2) := by decide +kernel
theorem dX4_withRule_10 : decode cX4_withRule 10 = .ok (.aload 4, 2) := by decide +kernel
theorem dX4_withRule_12 : decode cX4_withRule 12 = .ok (.iload_n 1, 1) := by decide +kernel
theorem dX4_withRule_13 : decode cX4_withRule 13 = .ok (.putfield 9, 3) := by decide +kernel
theorem dX4_withRule_16 : decode cX4_withRule 16 = .ok (.aload 4, 2) := by decide +kernel
theorem dX4_withRule_18 : decode cX4_withRule 18 = .ok (.iload_n 2, 1) := by decide +kernel
theorem dX4_withRule_19 : decode cX4_withRule 19 = .ok (.putfield 15, 3) := by decide +kernel
theorem dX4_withRule_22 : decode cX4_withRule 22 = .ok (.aload 4, 2) := by decide +kernel
theorem dX4_withRule_24 : decode cX4_withRule 24 = .ok (.iload_n 3, 1) := by decide +kernel
theorem dX4_withRule_25 : decode cX4_withRule 25 = .ok (.putfield 18, 3) := by decide +kernel
theorem dX4_withRule_28 : decode cX4_withRule 28 = .ok (.aload 4, 2) := by decide +kernel
theorem dX4_withRule_30 : decode cX4_withRule 30 = .ok (.aload 4, 2) := by decide +kernel
theorem dX4_withRule_32 : decode cX4_withRule 32 = .ok (.getfield 21, 3) := by decide +kernel
theorem dX4_withRule_35 : decode cX4_withRule 35 = .ok (.invokestatic 37, 3) := by decide +kernel
theorem dX4_withRule_38 : decode cX4_withRule 38 = .ok (.putfield 45, 3) := by decide +kernel
theorem dX4_withRule_41 : decode cX4_withRule 41 = .ok (.aload 4, 2) := by decide +kernel
theorem dX4_withRule_43 : decode cX4_withRule 43 = .ok (.invokevirtual 48, 3) := by decide +kernel
theorem dX4_withRule_46 : decode cX4_withRule 46 = .ok (.aload 4, 2) := by decide +kernel
theorem dX4_withRule_48 : decode cX4_withRule 48 = .ok (.areturn, 1) := by decide +kernel
theorem lk_X4_withRule : LK yX4_withRule cX4_withRule 5 (some (.object "MeetingServer$Version")) 3 := ⟨qW_at 1088 (by decide +kernel) rfl, qW_at 42 (by decide +kernel) rfl, by decide, by decide, by decide +kernel⟩
theorem im_X4_withRule : Cond.instanceMethod yX4_withRule ∈ qW := qW_at 1086 (by decide +kernel) rfl
theorem se_X4_withRule : Cond.selects RX4 yX4_withRule yX4_withRule ∈ qW := qW_at 1087 (by decide +kernel) rfl
def F_X4_withRule (this : Nat) (newStep_ : Int32) (newWeekdays_ : Int32) (newCount_ : Int32) : QX (Option Nat) :=
  (xb (xb (xnew 5) fun r1 => xb (xb (xp (some this)) fun v2 => xo 5 r1 fun q => F_X4_init_ q v2) fun _ => xp r1) fun next_4 =>
  (xb (xb (xp next_4) fun v5 => xb (xp newStep_) fun v6 => xsi 5 5 v5 v6) fun _ =>
  (xb (xb (xp next_4) fun v7 => xb (xp newWeekdays_) fun v8 => xsi 5 6 v7 v8) fun _ =>
  (xb (xb (xp next_4) fun v9 => xb (xp newCount_) fun v10 => xsi 5 7 v9 v10) fun _ =>
  (xb (xb (xp next_4) fun v13 => xb (xb (xb (xp next_4) fun v11 => xgi 5 0 v11) fun v12 => F_X4_rowOf v12) fun v14 => xsr 5 13 v13 v14) fun _ =>
  (xb (xb (xp next_4) fun v15 => xo 5 v15 fun q => F_X4_findDates q ) fun _ =>
  (xp next_4)))))))
set_option maxRecDepth 100000 in
set_option maxHeartbeats 4000000 in
theorem M_X4_withRule (this : Nat) (newStep_ : Int32) (newWeekdays_ : Int32) (newCount_ : Int32) : MM yX4_withRule cX4_withRule 5 (some (.object "MeetingServer$Version")) 3 64 3 141 encR [.ref this, .int newStep_, .int newWeekdays_, .int newCount_] (F_X4_withRule this newStep_ newWeekdays_ newCount_) := by
  refine MM_of (env0 := [(0, va_rf (some this)), (1, .int newStep_), (2, .int newWeekdays_), (3, .int newCount_)]) (by decide) (by exact Nat.le_of_ble_eq_true rfl) (by rfl) (fun k mm res X C hR hN hr hname h => ?_)
  have X : CX k cX4_withRule RX4 := X
  have hT : TH k (fun e m' => res = (.error e, m')) := TH_of C
  have htr := C.2.2.2.1
  unfold F_X4_withRule at h
  exact SB_go (T := fun e m' => res = (.error e, m')) (RET := fun v m' => res = (.ok v, m')) (SB_let (XE_new (c := 5) (ks0 := 17) (kc0 := 1) (fun st mm a b hc hs h => g_new (c := 5) tyX4 X rfl inW4 tyX4_ok cl_X4_10 in_4 ii_4 (by decide +kernel) hc hs dX4_withRule_0 h) (S_dup X dX4_withRule_3) (OP_args1  (L_aload_n (r := (some this)) 0 X dX4_withRule_4 rfl rfl) (fun r v0 st mm a b hd hc hs h => g_callIo (st := st) (cI := 5) X hT htr (fun q => M_X4_init_ q v0) lk_X4_init_ im_X4_init_ rfl ml_X4_74 rfl (by rw [hR]; exact ⟨Nat.le_of_ble_eq_true rfl, Nat.le_of_ble_eq_true rfl⟩) (Nat.le_trans hd (by decide)) ⟨hc, hs⟩ dX4_withRule_5 h)) rfl) (S_astore (ev := fun next_4 => [(4, va_rf next_4), (0, va_rf (some this)), (1, .int newStep_), (2, .int newWeekdays_), (3, .int newCount_)]) X dX4_withRule_8 (by rw [hN]; decide) (fun _ => rfl)) fun next_4 =>
  (SB_do (XE_2 wR (L_aload (r := next_4) 0 X dX4_withRule_10 rfl) (L_iload_n (x := newStep_) 2 X dX4_withRule_12 rfl rfl) (O_si (c := 5) (j := 5) tyX4 X rfl inW4 tyX4_ok nmX4 (by decide) fl_X4_9 (Or.inl rfl) rfl (by decide +kernel) dX4_withRule_13))
  (SB_do (XE_2 wR (L_aload (r := next_4) 0 X dX4_withRule_16 rfl) (L_iload_n (x := newWeekdays_) 3 X dX4_withRule_18 rfl rfl) (O_si (c := 5) (j := 6) tyX4 X rfl inW4 tyX4_ok nmX4 (by decide) fl_X4_15 (Or.inl rfl) rfl (by decide +kernel) dX4_withRule_19))
  (SB_do (XE_2 wR (L_aload (r := next_4) 0 X dX4_withRule_22 rfl) (L_iload_n (x := newCount_) 4 X dX4_withRule_24 rfl rfl) (O_si (c := 5) (j := 7) tyX4 X rfl inW4 tyX4_ok nmX4 (by decide) fl_X4_18 (Or.inl rfl) rfl (by decide +kernel) dX4_withRule_25))
  (SB_do (XE_2 wR (L_aload (r := next_4) 0 X dX4_withRule_28 rfl) (XE_1 (pB := pR)  (XE_1 (L_aload (r := next_4) 0 X dX4_withRule_30 rfl) (O_gi (c := 5) (j := 0) X rfl inW4 (by decide) fl_X4_21 rfl dX4_withRule_32)) (fun v0 st mm a b hd hc hs h => g_callS (st := st) X hT htr (M_X4_rowOf v0) lk_X4_rowOf st_X4_rowOf ml_X4_37 rfl (by rw [hR]; exact ⟨Nat.le_of_ble_eq_true rfl, Nat.le_of_ble_eq_true rfl⟩) (Nat.le_trans hd (by decide)) ⟨hc, hs⟩ dX4_withRule_35 h)) (O_sr (c := 5) (j := 13) tyX4 X rfl inW4 tyX4_ok nmX4 (by decide) fl_X4_45 (Or.inl rfl) rfl (by decide +kernel : parseFieldDescriptor (TX4 13).2.2.1 = some (.array .int)) (Or.inr ⟨_, rfl⟩) dX4_withRule_38))
  (SB_do (XE_1 (pB := pU)  (L_aload (r := next_4) 0 X dX4_withRule_41 rfl) (fun v0 st mm a b hd hc hs h => g_callVo (st := st) (cI := 5) X hT htr rfl (fun q => M_X4_findDates q ) lk_X4_findDates im_X4_findDates se_X4_findDates ml_X4_48 rfl (by rw [hR]; exact ⟨Nat.le_of_ble_eq_true rfl, Nat.le_of_ble_eq_true rfl⟩) (Nat.le_trans hd (by decide)) ⟨hc, hs⟩ dX4_withRule_43 h))
  (SB_retR X C hr (Or.inl ⟨_, rfl⟩) dX4_withRule_48 (L_aload (r := next_4) 0 X dX4_withRule_46 rfl)))))))) h (by rw [hR]; decide) (by rw [hR]; decide)
theorem dX4_putMoved_0 : decode cX4_putMoved 0 = .ok (.iload_n 1, 1) := by decide +kernel
theorem dX4_putMoved_1 : decode cX4_putMoved 1 = .ok (.invokestatic 87, 3) := by decide +kernel
theorem dX4_putMoved_4 : decode cX4_putMoved 4 = .ok (.ifCond .eq 34, 3) := by decide +kernel
theorem dX4_putMoved_7 : decode cX4_putMoved 7 = .ok (.aload_n 0, 1) := by decide +kernel
theorem dX4_putMoved_8 : decode cX4_putMoved 8 = .ok (.getfield 41, 3) := by decide +kernel
theorem dX4_putMoved_11 : decode cX4_putMoved 11 = .ok (.iload_n 1, 1) := by decide +kernel
theorem dX4_putMoved_12 : decode cX4_putMoved 12 = .ok (.iaload, 1) := by decide +kernel
theorem dX4_putMoved_13 : decode cX4_putMoved 13 = .ok (.iload_n 2, 1) := by decide +kernel
theorem dX4_putMoved_14 : decode cX4_putMoved 14 = .ok (.if_icmp .eq 24, 3) := by decide +kernel
theorem dX4_putMoved_17 : decode cX4_putMoved 17 = .ok (.aload_n 0, 1) := by decide +kernel
theorem dX4_putMoved_18 : decode cX4_putMoved 18 = .ok (.aload_n 0, 1) := by decide +kernel
theorem dX4_putMoved_19 : decode cX4_putMoved 19 = .ok (.getfield 41, 3) := by decide +kernel
theorem dX4_putMoved_22 : decode cX4_putMoved 22 = .ok (.invokevirtual 97, 3) := by decide +kernel
theorem dX4_putMoved_25 : decode cX4_putMoved 25 = .ok (.checkcast 98, 3) := by decide +kernel
theorem dX4_putMoved_28 : decode cX4_putMoved 28 = .ok (.putfield 41, 3) := by decide +kernel
theorem dX4_putMoved_31 : decode cX4_putMoved 31 = .ok (.aload_n 0, 1) := by decide +kernel
theorem dX4_putMoved_32 : decode cX4_putMoved 32 = .ok (.getfield 41, 3) := by decide +kernel
theorem dX4_putMoved_35 : decode cX4_putMoved 35 = .ok (.iload_n 1, 1) := by decide +kernel
theorem dX4_putMoved_36 : decode cX4_putMoved 36 = .ok (.iload_n 2, 1) := by decide +kernel
theorem dX4_putMoved_37 : decode cX4_putMoved 37 = .ok (.iastore, 1) := by decide +kernel
theorem dX4_putMoved_38 : decode cX4_putMoved 38 = .ok (.return_, 1) := by decide +kernel
theorem lk_X4_putMoved : LK yX4_putMoved cX4_putMoved 3 none 2 := ⟨qW_at 1104 (by decide +kernel) rfl, qW_at 42 (by decide +kernel) rfl, by decide, by decide, by decide +kernel⟩
theorem im_X4_putMoved : Cond.instanceMethod yX4_putMoved ∈ qW := qW_at 1103 (by decide +kernel) rfl
theorem se_X4_putMoved : Cond.selects RX4 yX4_putMoved yX4_putMoved ∈ qW := qW_at 22 (by decide +kernel) rfl
def F_X4_putMoved (this : Nat) (day_ : Int32) (local_ : Int32) : QX Unit :=
  (xb (xb (xb (xb (xb (xp day_) fun v1 => F_X6_isDay v1) fun v2 => xp (decide (¬ v2 = 0))) fun v8 => if v8 then (xb (xb (xb (xp (some this)) fun v3 => xgr 5 12 v3) fun v4 => xb (xp day_) fun v5 => xai 0 v4 v5) fun v6 => xb (xp local_) fun v7 => xp (decide (¬ v6 = v7))) else xp false) fun v17 => if v17 then (xb (xb (xp (some this)) fun v11 => xb (xb (xb (xp (some this)) fun v9 => xgr 5 12 v9) fun v10 => xclone v10 60) fun v12 => xsr 5 12 v11 v12) fun _ =>
  (xb (xb (xb (xp (some this)) fun v13 => xgr 5 12 v13) fun v14 => xb (xp day_) fun v15 => xb (xp local_) fun v16 => xsai v14 v15 v16) fun _ =>
  (xp ()))) else (xp ())) fun s18 =>
  (xp ()))
set_option maxRecDepth 100000 in
set_option maxHeartbeats 4000000 in
theorem M_X4_putMoved (this : Nat) (day_ : Int32) (local_ : Int32) : MM yX4_putMoved cX4_putMoved 3 none 1 22 1 60 encU [.ref this, .int day_, .int local_] (F_X4_putMoved this day_ local_) := by
  refine MM_of (env0 := [(0, va_rf (some this)), (1, .int day_), (2, .int local_)]) (by decide) (by exact Nat.le_of_ble_eq_true rfl) (by rfl) (fun k mm res X C hR hN hr hname h => ?_)
  have X : CX k cX4_putMoved RX4 := X
  have hT : TH k (fun e m' => res = (.error e, m')) := TH_of C
  have htr := C.2.2.2.1
  unfold F_X4_putMoved at h
  exact SB_go (T := fun e m' => res = (.error e, m')) (RET := fun v m' => res = (.ok v, m')) (SB_seq (ST_if (CE_and (CE_1 (XE_1 (pB := pI)  (L_iload_n (x := day_) 1 X dX4_putMoved_0 rfl rfl) (fun v0 st mm a b hd hc hs h => g_callSN (st := st) X hT htr (M_X6_isDay v0) lk_X6_isDay st_X6_isDay ml_X4_87 rfl (by rw [hR]; exact ⟨Nat.le_of_ble_eq_true rfl, Nat.le_of_ble_eq_true rfl⟩) (Nat.le_trans hd (by decide)) ⟨hc, hs⟩ dX4_putMoved_1 h)) (Z_ne_F X dX4_putMoved_4 (by decide))) (CE_2 wI (XE_2 wR (XE_1 (L_aload_n (r := (some this)) 0 X dX4_putMoved_7 rfl rfl) (O_gr (c := 5) (j := 12) X rfl inW4 (by decide) fl_X4_41 rfl dX4_putMoved_8)) (L_iload_n (x := day_) 1 X dX4_putMoved_11 rfl rfl) (O_ai X dX4_putMoved_12)) (L_iload_n (x := local_) 2 X dX4_putMoved_13 rfl rfl) (C_ne_F X dX4_putMoved_14 (by decide))))
  (ST_do (XE_2 wR (L_aload_n (r := (some this)) 0 X dX4_putMoved_17 rfl rfl) (XE_1 (XE_1 (L_aload_n (r := (some this)) 0 X dX4_putMoved_18 rfl rfl) (O_gr (c := 5) (j := 12) X rfl inW4 (by decide) fl_X4_41 rfl dX4_putMoved_19)) (O_clone (cap := 60) X ml_X4_97 cl_X4_98 (by rw [hR]; exact Nat.le_of_ble_eq_true rfl) (by decide) (by rw [hR]; exact Nat.le_of_ble_eq_true rfl) dX4_putMoved_22 dX4_putMoved_25)) (O_sr (c := 5) (j := 12) tyX4 X rfl inW4 tyX4_ok nmX4 (by decide) fl_X4_41 (Or.inl rfl) rfl (by decide +kernel : parseFieldDescriptor (TX4 12).2.2.1 = some (.array .int)) (Or.inr ⟨_, rfl⟩) dX4_putMoved_28))
  (ST_do (XE_3 wR wI (XE_1 (L_aload_n (r := (some this)) 0 X dX4_putMoved_31 rfl rfl) (O_gr (c := 5) (j := 12) X rfl inW4 (by decide) fl_X4_41 rfl dX4_putMoved_32)) (L_iload_n (x := day_) 1 X dX4_putMoved_35 rfl rfl) (L_iload_n (x := local_) 2 X dX4_putMoved_36 rfl rfl) (O_sai X dX4_putMoved_37))
  (ST_done (upd := (fun (s : Unit) => [(0, va_rf (some this)), (1, .int day_), (2, .int local_)])) (s := ()) [0, 1, 2] rfl)))
  (ST_done (upd := (fun (s : Unit) => [(0, va_rf (some this)), (1, .int day_), (2, .int local_)])) (s := ()) [0, 1, 2] rfl)) fun s18 =>
  (SB_retU X C hr dX4_putMoved_38)) h (by rw [hR]; decide) (by rw [hR]; decide)
theorem dX4_withoutDate_0 : decode cX4_withoutDate 0 = .ok (.new 10, 3) := by decide +kernel
theorem dX4_withoutDate_3 : decode cX4_withoutDate 3 = .ok (.dup, 1) := by decide +kernel
theorem dX4_withoutDate_4 : decode cX4_withoutDate 4 = .ok (.aload_n 0, 1) := by decide +kernel
theorem dX4_withoutDate_5 : decode cX4_withoutDate 5 = .ok (.invokespecial 74, 3) := by decide +kernel
theorem dX4_withoutDate_8 : decode cX4_withoutDate 8 = .ok (.astore_n 2, 1) := by decide +kernel
theorem dX4_withoutDate_9 : decode cX4_withoutDate 9 = .ok (.aload_n 2, 1) := by decide +kernel
theorem dX4_withoutDate_10 : decode cX4_withoutDate 10 = .ok (.dup, 1) := by decide +kernel
theorem dX4_withoutDate_11 : decode cX4_withoutDate 11 = .ok (.getfield 51, 3) := by decide +kernel
theorem dX4_withoutDate_14 : decode cX4_withoutDate 14 = .ok (.lconst 1, 1) := by decide +kernel
theorem dX4_withoutDate_15 : decode cX4_withoutDate 15 = .ok (.iload_n 1, 1) := by decide +kernel
theorem dX4_withoutDate_16 : decode cX4_withoutDate 16 = .ok (.lshl, 1) := by decide +kernel
theorem dX4_withoutDate_17 : decode cX4_withoutDate 17 = .ok (.ldc2_w 77, 3) := by decide +kernel
theorem dX4_withoutDate_20 : decode cX4_withoutDate 20 = .ok (.lxor, 1) := by decide +kernel
theorem dX4_withoutDate_21 : decode cX4_withoutDate 21 = .ok (.land, 1) := by decide +kernel
theorem dX4_withoutDate_22 : decode cX4_withoutDate 22 = .ok (.putfield 51, 3) := by decide +kernel
theorem dX4_withoutDate_25 : decode cX4_withoutDate 25 = .ok (.aload_n 2, 1) := by decide +kernel
theorem dX4_withoutDate_26 : decode cX4_withoutDate 26 = .ok (.dup, 1) := by decide +kernel
theorem dX4_withoutDate_27 : decode cX4_withoutDate 27 = .ok (.getfield 55, 3) := by decide +kernel
theorem dX4_withoutDate_30 : decode cX4_withoutDate 30 = .ok (.lconst 1, 1) := by decide +kernel
theorem dX4_withoutDate_31 : decode cX4_withoutDate 31 = .ok (.iload_n 1, 1) := by decide +kernel
theorem dX4_withoutDate_32 : decode cX4_withoutDate 32 = .ok (.lshl, 1) := by decide +kernel
theorem dX4_withoutDate_33 : decode cX4_withoutDate 33 = .ok (.lor, 1) := by decide +kernel
theorem dX4_withoutDate_34 : decode cX4_withoutDate 34 = .ok (.putfield 55, 3) := by decide +kernel
theorem dX4_withoutDate_37 : decode cX4_withoutDate 37 = .ok (.aload_n 2, 1) := by decide +kernel
theorem dX4_withoutDate_38 : decode cX4_withoutDate 38 = .ok (.iload_n 1, 1) := by decide +kernel
theorem dX4_withoutDate_39 : decode cX4_withoutDate 39 = .ok (.iconst (-1), 1) := by decide +kernel
theorem dX4_withoutDate_40 : decode cX4_withoutDate 40 = .ok (.invokevirtual 79, 3) := by decide +kernel
theorem dX4_withoutDate_43 : decode cX4_withoutDate 43 = .ok (.aload_n 2, 1) := by decide +kernel
theorem dX4_withoutDate_44 : decode cX4_withoutDate 44 = .ok (.invokevirtual 48, 3) := by decide +kernel
theorem dX4_withoutDate_47 : decode cX4_withoutDate 47 = .ok (.aload_n 2, 1) := by decide +kernel
theorem dX4_withoutDate_48 : decode cX4_withoutDate 48 = .ok (.areturn, 1) := by decide +kernel
theorem lk_X4_withoutDate : LK yX4_withoutDate cX4_withoutDate 3 (some (.object "MeetingServer$Version")) 1 := ⟨qW_at 1100 (by decide +kernel) rfl, qW_at 42 (by decide +kernel) rfl, by decide, by decide, by decide +kernel⟩
theorem im_X4_withoutDate : Cond.instanceMethod yX4_withoutDate ∈ qW := qW_at 1098 (by decide +kernel) rfl
theorem se_X4_withoutDate : Cond.selects RX4 yX4_withoutDate yX4_withoutDate ∈ qW := qW_at 1099 (by decide +kernel) rfl
def F_X4_withoutDate (this : Nat) (day_ : Int32) : QX (Option Nat) :=
  (xb (xb (xnew 5) fun r1 => xb (xb (xp (some this)) fun v2 => xo 5 r1 fun q => F_X4_init_ q v2) fun _ => xp r1) fun next_4 =>
  (xb (xb (xp next_4) fun v9 => xb (xgl 5 8 v9) fun v10 => xb (xb (xb (xp (1 : Int64)) fun v5 => xb (xp day_) fun v6 => (xp (v5 <<< (v6.toInt64 &&& 63)))) fun v7 => xb (xp (-1 : Int64)) fun v8 => xp (v7 ^^^ v8)) fun v11 => xb (xp (v10 &&& v11)) fun v12 => xsl 5 8 v9 v12) fun _ =>
  (xb (xb (xp next_4) fun v15 => xb (xgl 5 9 v15) fun v16 => xb (xb (xp (1 : Int64)) fun v13 => xb (xp day_) fun v14 => (xp (v13 <<< (v14.toInt64 &&& 63)))) fun v17 => xb (xp (v16 ||| v17)) fun v18 => xsl 5 9 v15 v18) fun _ =>
  (xb (xb (xp next_4) fun v19 => xb (xp day_) fun v20 => xb (xp (-1 : Int32)) fun v21 => xo 5 v19 fun q => F_X4_putMoved q v20 v21) fun _ =>
  (xb (xb (xp next_4) fun v22 => xo 5 v22 fun q => F_X4_findDates q ) fun _ =>
  (xp next_4))))))
set_option maxRecDepth 100000 in
set_option maxHeartbeats 4000000 in
theorem M_X4_withoutDate (this : Nat) (day_ : Int32) : MM yX4_withoutDate cX4_withoutDate 3 (some (.object "MeetingServer$Version")) 3 64 3 141 encR [.ref this, .int day_] (F_X4_withoutDate this day_) := by
  refine MM_of (env0 := [(0, va_rf (some this)), (1, .int day_)]) (by decide) (by exact Nat.le_of_ble_eq_true rfl) (by rfl) (fun k mm res X C hR hN hr hname h => ?_)
  have X : CX k cX4_withoutDate RX4 := X
  have hT : TH k (fun e m' => res = (.error e, m')) := TH_of C
  have htr := C.2.2.2.1
  unfold F_X4_withoutDate at h
  exact SB_go (T := fun e m' => res = (.error e, m')) (RET := fun v m' => res = (.ok v, m')) (SB_let (XE_new (c := 5) (ks0 := 17) (kc0 := 1) (fun st mm a b hc hs h => g_new (c := 5) tyX4 X rfl inW4 tyX4_ok cl_X4_10 in_4 ii_4 (by decide +kernel) hc hs dX4_withoutDate_0 h) (S_dup X dX4_withoutDate_3) (OP_args1  (L_aload_n (r := (some this)) 0 X dX4_withoutDate_4 rfl rfl) (fun r v0 st mm a b hd hc hs h => g_callIo (st := st) (cI := 5) X hT htr (fun q => M_X4_init_ q v0) lk_X4_init_ im_X4_init_ rfl ml_X4_74 rfl (by rw [hR]; exact ⟨Nat.le_of_ble_eq_true rfl, Nat.le_of_ble_eq_true rfl⟩) (Nat.le_trans hd (by decide)) ⟨hc, hs⟩ dX4_withoutDate_5 h)) rfl) (S_astore_n (ev := fun next_4 => [(2, va_rf next_4), (0, va_rf (some this)), (1, .int day_)]) X dX4_withoutDate_8 rfl (by rw [hN]; decide) (fun _ => rfl)) fun next_4 =>
  (SB_do (XE_dup wL (L_aload_n (r := next_4) 0 X dX4_withoutDate_9 rfl rfl) (S_dup X dX4_withoutDate_10) (O_gl (c := 5) (j := 8) X rfl inW4 (by decide) fl_X4_51 rfl dX4_withoutDate_11) (XE_2 wL (XE_2 wL (L_lconst (v := 1) X dX4_withoutDate_14 (by decide)) (L_iload_n (x := day_) 2 X dX4_withoutDate_15 rfl rfl) (O_lshl X dX4_withoutDate_16)) (L_ldc2 X dX4_withoutDate_17 kl_X4_77) (O_lxor X dX4_withoutDate_20)) (O_land X dX4_withoutDate_21) (O_sl (c := 5) (j := 8) tyX4 X rfl inW4 tyX4_ok nmX4 (by decide) fl_X4_51 (Or.inl rfl) rfl (by decide +kernel) dX4_withoutDate_22))
  (SB_do (XE_dup wL (L_aload_n (r := next_4) 0 X dX4_withoutDate_25 rfl rfl) (S_dup X dX4_withoutDate_26) (O_gl (c := 5) (j := 9) X rfl inW4 (by decide) fl_X4_55 rfl dX4_withoutDate_27) (XE_2 wL (L_lconst (v := 1) X dX4_withoutDate_30 (by decide)) (L_iload_n (x := day_) 2 X dX4_withoutDate_31 rfl rfl) (O_lshl X dX4_withoutDate_32)) (O_lor X dX4_withoutDate_33) (O_sl (c := 5) (j := 9) tyX4 X rfl inW4 tyX4_ok nmX4 (by decide) fl_X4_55 (Or.inl rfl) rfl (by decide +kernel) dX4_withoutDate_34))
  (SB_do (XE_3 (pB := pU) wR wI (L_aload_n (r := next_4) 0 X dX4_withoutDate_37 rfl rfl) (L_iload_n (x := day_) 2 X dX4_withoutDate_38 rfl rfl) (L_iconst (v := (-1)) X dX4_withoutDate_39 (by decide)) (fun v0 v1 v2 st mm a b hd hc hs h => g_callVo (st := st) (cI := 5) X hT htr rfl (fun q => M_X4_putMoved q v1 v2) lk_X4_putMoved im_X4_putMoved se_X4_putMoved ml_X4_79 rfl (by rw [hR]; exact ⟨Nat.le_of_ble_eq_true rfl, Nat.le_of_ble_eq_true rfl⟩) (Nat.le_trans hd (by decide)) ⟨hc, hs⟩ dX4_withoutDate_40 h))
  (SB_do (XE_1 (pB := pU)  (L_aload_n (r := next_4) 0 X dX4_withoutDate_43 rfl rfl) (fun v0 st mm a b hd hc hs h => g_callVo (st := st) (cI := 5) X hT htr rfl (fun q => M_X4_findDates q ) lk_X4_findDates im_X4_findDates se_X4_findDates ml_X4_48 rfl (by rw [hR]; exact ⟨Nat.le_of_ble_eq_true rfl, Nat.le_of_ble_eq_true rfl⟩) (Nat.le_trans hd (by decide)) ⟨hc, hs⟩ dX4_withoutDate_44 h))
  (SB_retR X C hr (Or.inl ⟨_, rfl⟩) dX4_withoutDate_48 (L_aload_n (r := next_4) 0 X dX4_withoutDate_47 rfl rfl))))))) h (by rw [hR]; decide) (by rw [hR]; decide)
theorem dX4_putStand_0 : decode cX4_putStand 0 = .ok (.iload_n 1, 1) := by decide +kernel
theorem dX4_putStand_1 : decode cX4_putStand 1 = .ok (.invokestatic 87, 3) := by decide +kernel
theorem dX4_putStand_4 : decode cX4_putStand 4 = .ok (.ifCond .eq 27, 3) := by decide +kernel
theorem dX4_putStand_7 : decode cX4_putStand 7 = .ok (.aload_n 0, 1) := by decide +kernel
theorem dX4_putStand_8 : decode cX4_putStand 8 = .ok (.aload_n 0, 1) := by decide +kernel
theorem dX4_putStand_9 : decode cX4_putStand 9 = .ok (.getfield 45, 3) := by decide +kernel
theorem dX4_putStand_12 : decode cX4_putStand 12 = .ok (.invokevirtual 97, 3) := by decide +kernel
theorem dX4_putStand_15 : decode cX4_putStand 15 = .ok (.checkcast 98, 3) := by decide +kernel
theorem dX4_putStand_18 : decode cX4_putStand 18 = .ok (.putfield 45, 3) := by decide +kernel
theorem dX4_putStand_21 : decode cX4_putStand 21 = .ok (.aload_n 0, 1) := by decide +kernel
theorem dX4_putStand_22 : decode cX4_putStand 22 = .ok (.getfield 45, 3) := by decide +kernel
theorem dX4_putStand_25 : decode cX4_putStand 25 = .ok (.iload_n 1, 1) := by decide +kernel
theorem dX4_putStand_26 : decode cX4_putStand 26 = .ok (.aload_n 0, 1) := by decide +kernel
theorem dX4_putStand_27 : decode cX4_putStand 27 = .ok (.getfield 21, 3) := by decide +kernel
theorem dX4_putStand_30 : decode cX4_putStand 30 = .ok (.iastore, 1) := by decide +kernel
theorem dX4_putStand_31 : decode cX4_putStand 31 = .ok (.return_, 1) := by decide +kernel
theorem lk_X4_putStand : LK yX4_putStand cX4_putStand 2 none 1 := ⟨qW_at 1124 (by decide +kernel) rfl, qW_at 42 (by decide +kernel) rfl, by decide, by decide, by decide +kernel⟩
theorem im_X4_putStand : Cond.instanceMethod yX4_putStand ∈ qW := qW_at 1123 (by decide +kernel) rfl
theorem se_X4_putStand : Cond.selects RX4 yX4_putStand yX4_putStand ∈ qW := qW_at 23 (by decide +kernel) rfl
def F_X4_putStand (this : Nat) (day_ : Int32) : QX Unit :=
  (xb (xb (xb (xb (xp day_) fun v1 => F_X6_isDay v1) fun v2 => xp (decide (¬ v2 = 0))) fun v12 => if v12 then (xb (xb (xp (some this)) fun v5 => xb (xb (xb (xp (some this)) fun v3 => xgr 5 13 v3) fun v4 => xclone v4 60) fun v6 => xsr 5 13 v5 v6) fun _ =>
  (xb (xb (xb (xp (some this)) fun v7 => xgr 5 13 v7) fun v9 => xb (xp day_) fun v10 => xb (xb (xp (some this)) fun v8 => xgi 5 0 v8) fun v11 => xsai v9 v10 v11) fun _ =>
  (xp ()))) else (xp ())) fun s13 =>
  (xp ()))
set_option maxRecDepth 100000 in
set_option maxHeartbeats 4000000 in
theorem M_X4_putStand (this : Nat) (day_ : Int32) : MM yX4_putStand cX4_putStand 2 none 1 22 1 60 encU [.ref this, .int day_] (F_X4_putStand this day_) := by
  refine MM_of (env0 := [(0, va_rf (some this)), (1, .int day_)]) (by decide) (by exact Nat.le_of_ble_eq_true rfl) (by rfl) (fun k mm res X C hR hN hr hname h => ?_)
  have X : CX k cX4_putStand RX4 := X
  have hT : TH k (fun e m' => res = (.error e, m')) := TH_of C
  have htr := C.2.2.2.1
  unfold F_X4_putStand at h
  exact SB_go (T := fun e m' => res = (.error e, m')) (RET := fun v m' => res = (.ok v, m')) (SB_seq (ST_if (CE_1 (XE_1 (pB := pI)  (L_iload_n (x := day_) 1 X dX4_putStand_0 rfl rfl) (fun v0 st mm a b hd hc hs h => g_callSN (st := st) X hT htr (M_X6_isDay v0) lk_X6_isDay st_X6_isDay ml_X4_87 rfl (by rw [hR]; exact ⟨Nat.le_of_ble_eq_true rfl, Nat.le_of_ble_eq_true rfl⟩) (Nat.le_trans hd (by decide)) ⟨hc, hs⟩ dX4_putStand_1 h)) (Z_ne_F X dX4_putStand_4 (by decide)))
  (ST_do (XE_2 wR (L_aload_n (r := (some this)) 0 X dX4_putStand_7 rfl rfl) (XE_1 (XE_1 (L_aload_n (r := (some this)) 0 X dX4_putStand_8 rfl rfl) (O_gr (c := 5) (j := 13) X rfl inW4 (by decide) fl_X4_45 rfl dX4_putStand_9)) (O_clone (cap := 60) X ml_X4_97 cl_X4_98 (by rw [hR]; exact Nat.le_of_ble_eq_true rfl) (by decide) (by rw [hR]; exact Nat.le_of_ble_eq_true rfl) dX4_putStand_12 dX4_putStand_15)) (O_sr (c := 5) (j := 13) tyX4 X rfl inW4 tyX4_ok nmX4 (by decide) fl_X4_45 (Or.inl rfl) rfl (by decide +kernel : parseFieldDescriptor (TX4 13).2.2.1 = some (.array .int)) (Or.inr ⟨_, rfl⟩) dX4_putStand_18))
  (ST_do (XE_3 wR wI (XE_1 (L_aload_n (r := (some this)) 0 X dX4_putStand_21 rfl rfl) (O_gr (c := 5) (j := 13) X rfl inW4 (by decide) fl_X4_45 rfl dX4_putStand_22)) (L_iload_n (x := day_) 1 X dX4_putStand_25 rfl rfl) (XE_1 (L_aload_n (r := (some this)) 0 X dX4_putStand_26 rfl rfl) (O_gi (c := 5) (j := 0) X rfl inW4 (by decide) fl_X4_21 rfl dX4_putStand_27)) (O_sai X dX4_putStand_30))
  (ST_done (upd := (fun (s : Unit) => [(0, va_rf (some this)), (1, .int day_)])) (s := ()) [0, 1] rfl)))
  (ST_done (upd := (fun (s : Unit) => [(0, va_rf (some this)), (1, .int day_)])) (s := ()) [0, 1] rfl)) fun s13 =>
  (SB_retU X C hr dX4_putStand_31)) h (by rw [hR]; decide) (by rw [hR]; decide)
theorem dX4_withDate_0 : decode cX4_withDate 0 = .ok (.new 10, 3) := by decide +kernel
theorem dX4_withDate_3 : decode cX4_withDate 3 = .ok (.dup, 1) := by decide +kernel
theorem dX4_withDate_4 : decode cX4_withDate 4 = .ok (.aload_n 0, 1) := by decide +kernel
theorem dX4_withDate_5 : decode cX4_withDate 5 = .ok (.invokespecial 74, 3) := by decide +kernel
theorem dX4_withDate_8 : decode cX4_withDate 8 = .ok (.astore_n 2, 1) := by decide +kernel
theorem dX4_withDate_9 : decode cX4_withDate 9 = .ok (.aload_n 2, 1) := by decide +kernel
theorem dX4_withDate_10 : decode cX4_withDate 10 = .ok (.dup, 1) := by decide +kernel
theorem dX4_withDate_11 : decode cX4_withDate 11 = .ok (.getfield 51, 3) := by decide +kernel
theorem dX4_withDate_14 : decode cX4_withDate 14 = .ok (.lconst 1, 1) := by decide +kernel
theorem dX4_withDate_15 : decode cX4_withDate 15 = .ok (.iload_n 1, 1) := by decide +kernel
theorem dX4_withDate_16 : decode cX4_withDate 16 = .ok (.lshl, 1) := by decide +kernel
theorem dX4_withDate_17 : decode cX4_withDate 17 = .ok (.lor, 1) := by decide +kernel
theorem dX4_withDate_18 : decode cX4_withDate 18 = .ok (.putfield 51, 3) := by decide +kernel
theorem dX4_withDate_21 : decode cX4_withDate 21 = .ok (.aload_n 2, 1) := by decide +kernel
theorem dX4_withDate_22 : decode cX4_withDate 22 = .ok (.dup, 1) := by decide +kernel
theorem dX4_withDate_23 : decode cX4_withDate 23 = .ok (.getfield 55, 3) := by decide +kernel
theorem dX4_withDate_26 : decode cX4_withDate 26 = .ok (.lconst 1, 1) := by decide +kernel
theorem dX4_withDate_27 : decode cX4_withDate 27 = .ok (.iload_n 1, 1) := by decide +kernel
theorem dX4_withDate_28 : decode cX4_withDate 28 = .ok (.lshl, 1) := by decide +kernel
theorem dX4_withDate_29 : decode cX4_withDate 29 = .ok (.ldc2_w 77, 3) := by decide +kernel
theorem dX4_withDate_32 : decode cX4_withDate 32 = .ok (.lxor, 1) := by decide +kernel
theorem dX4_withDate_33 : decode cX4_withDate 33 = .ok (.land, 1) := by decide +kernel
theorem dX4_withDate_34 : decode cX4_withDate 34 = .ok (.putfield 55, 3) := by decide +kernel
theorem dX4_withDate_37 : decode cX4_withDate 37 = .ok (.aload_n 2, 1) := by decide +kernel
theorem dX4_withDate_38 : decode cX4_withDate 38 = .ok (.iload_n 1, 1) := by decide +kernel
theorem dX4_withDate_39 : decode cX4_withDate 39 = .ok (.invokevirtual 83, 3) := by decide +kernel
theorem dX4_withDate_42 : decode cX4_withDate 42 = .ok (.aload_n 2, 1) := by decide +kernel
theorem dX4_withDate_43 : decode cX4_withDate 43 = .ok (.invokevirtual 48, 3) := by decide +kernel
theorem dX4_withDate_46 : decode cX4_withDate 46 = .ok (.aload_n 2, 1) := by decide +kernel
theorem dX4_withDate_47 : decode cX4_withDate 47 = .ok (.areturn, 1) := by decide +kernel
theorem lk_X4_withDate : LK yX4_withDate cX4_withDate 3 (some (.object "MeetingServer$Version")) 1 := ⟨qW_at 1120 (by decide +kernel) rfl, qW_at 42 (by decide +kernel) rfl, by decide, by decide, by decide +kernel⟩
theorem im_X4_withDate : Cond.instanceMethod yX4_withDate ∈ qW := qW_at 1118 (by decide +kernel) rfl
theorem se_X4_withDate : Cond.selects RX4 yX4_withDate yX4_withDate ∈ qW := qW_at 1119 (by decide +kernel) rfl
def F_X4_withDate (this : Nat) (day_ : Int32) : QX (Option Nat) :=
  (xb (xb (xnew 5) fun r1 => xb (xb (xp (some this)) fun v2 => xo 5 r1 fun q => F_X4_init_ q v2) fun _ => xp r1) fun next_4 =>
  (xb (xb (xp next_4) fun v7 => xb (xgl 5 8 v7) fun v8 => xb (xb (xp (1 : Int64)) fun v5 => xb (xp day_) fun v6 => (xp (v5 <<< (v6.toInt64 &&& 63)))) fun v9 => xb (xp (v8 ||| v9)) fun v10 => xsl 5 8 v7 v10) fun _ =>
  (xb (xb (xp next_4) fun v15 => xb (xgl 5 9 v15) fun v16 => xb (xb (xb (xp (1 : Int64)) fun v11 => xb (xp day_) fun v12 => (xp (v11 <<< (v12.toInt64 &&& 63)))) fun v13 => xb (xp (-1 : Int64)) fun v14 => xp (v13 ^^^ v14)) fun v17 => xb (xp (v16 &&& v17)) fun v18 => xsl 5 9 v15 v18) fun _ =>
  (xb (xb (xp next_4) fun v19 => xb (xp day_) fun v20 => xo 5 v19 fun q => F_X4_putStand q v20) fun _ =>
  (xb (xb (xp next_4) fun v21 => xo 5 v21 fun q => F_X4_findDates q ) fun _ =>
  (xp next_4))))))
set_option maxRecDepth 100000 in
set_option maxHeartbeats 4000000 in
theorem M_X4_withDate (this : Nat) (day_ : Int32) : MM yX4_withDate cX4_withDate 3 (some (.object "MeetingServer$Version")) 3 64 3 141 encR [.ref this, .int day_] (F_X4_withDate this day_) := by
  refine MM_of (env0 := [(0, va_rf (some this)), (1, .int day_)]) (by decide) (by exact Nat.le_of_ble_eq_true rfl) (by rfl) (fun k mm res X C hR hN hr hname h => ?_)
  have X : CX k cX4_withDate RX4 := X
  have hT : TH k (fun e m' => res = (.error e, m')) := TH_of C
  have htr := C.2.2.2.1
  unfold F_X4_withDate at h
  exact SB_go (T := fun e m' => res = (.error e, m')) (RET := fun v m' => res = (.ok v, m')) (SB_let (XE_new (c := 5) (ks0 := 17) (kc0 := 1) (fun st mm a b hc hs h => g_new (c := 5) tyX4 X rfl inW4 tyX4_ok cl_X4_10 in_4 ii_4 (by decide +kernel) hc hs dX4_withDate_0 h) (S_dup X dX4_withDate_3) (OP_args1  (L_aload_n (r := (some this)) 0 X dX4_withDate_4 rfl rfl) (fun r v0 st mm a b hd hc hs h => g_callIo (st := st) (cI := 5) X hT htr (fun q => M_X4_init_ q v0) lk_X4_init_ im_X4_init_ rfl ml_X4_74 rfl (by rw [hR]; exact ⟨Nat.le_of_ble_eq_true rfl, Nat.le_of_ble_eq_true rfl⟩) (Nat.le_trans hd (by decide)) ⟨hc, hs⟩ dX4_withDate_5 h)) rfl) (S_astore_n (ev := fun next_4 => [(2, va_rf next_4), (0, va_rf (some this)), (1, .int day_)]) X dX4_withDate_8 rfl (by rw [hN]; decide) (fun _ => rfl)) fun next_4 =>
  (SB_do (XE_dup wL (L_aload_n (r := next_4) 0 X dX4_withDate_9 rfl rfl) (S_dup X dX4_withDate_10) (O_gl (c := 5) (j := 8) X rfl inW4 (by decide) fl_X4_51 rfl dX4_withDate_11) (XE_2 wL (L_lconst (v := 1) X dX4_withDate_14 (by decide)) (L_iload_n (x := day_) 2 X dX4_withDate_15 rfl rfl) (O_lshl X dX4_withDate_16)) (O_lor X dX4_withDate_17) (O_sl (c := 5) (j := 8) tyX4 X rfl inW4 tyX4_ok nmX4 (by decide) fl_X4_51 (Or.inl rfl) rfl (by decide +kernel) dX4_withDate_18))
  (SB_do (XE_dup wL (L_aload_n (r := next_4) 0 X dX4_withDate_21 rfl rfl) (S_dup X dX4_withDate_22) (O_gl (c := 5) (j := 9) X rfl inW4 (by decide) fl_X4_55 rfl dX4_withDate_23) (XE_2 wL (XE_2 wL (L_lconst (v := 1) X dX4_withDate_26 (by decide)) (L_iload_n (x := day_) 2 X dX4_withDate_27 rfl rfl) (O_lshl X dX4_withDate_28)) (L_ldc2 X dX4_withDate_29 kl_X4_77) (O_lxor X dX4_withDate_32)) (O_land X dX4_withDate_33) (O_sl (c := 5) (j := 9) tyX4 X rfl inW4 tyX4_ok nmX4 (by decide) fl_X4_55 (Or.inl rfl) rfl (by decide +kernel) dX4_withDate_34))
  (SB_do (XE_2 (pB := pU) wR (L_aload_n (r := next_4) 0 X dX4_withDate_37 rfl rfl) (L_iload_n (x := day_) 2 X dX4_withDate_38 rfl rfl) (fun v0 v1 st mm a b hd hc hs h => g_callVo (st := st) (cI := 5) X hT htr rfl (fun q => M_X4_putStand q v1) lk_X4_putStand im_X4_putStand se_X4_putStand ml_X4_83 rfl (by rw [hR]; exact ⟨Nat.le_of_ble_eq_true rfl, Nat.le_of_ble_eq_true rfl⟩) (Nat.le_trans hd (by decide)) ⟨hc, hs⟩ dX4_withDate_39 h))
  (SB_do (XE_1 (pB := pU)  (L_aload_n (r := next_4) 0 X dX4_withDate_42 rfl rfl) (fun v0 st mm a b hd hc hs h => g_callVo (st := st) (cI := 5) X hT htr rfl (fun q => M_X4_findDates q ) lk_X4_findDates im_X4_findDates se_X4_findDates ml_X4_48 rfl (by rw [hR]; exact ⟨Nat.le_of_ble_eq_true rfl, Nat.le_of_ble_eq_true rfl⟩) (Nat.le_trans hd (by decide)) ⟨hc, hs⟩ dX4_withDate_43 h))
  (SB_retR X C hr (Or.inl ⟨_, rfl⟩) dX4_withDate_47 (L_aload_n (r := next_4) 0 X dX4_withDate_46 rfl rfl))))))) h (by rw [hR]; decide) (by rw [hR]; decide)
theorem dX4_withMove_0 : decode cX4_withMove 0 = .ok (.new 10, 3) := by decide +kernel
theorem dX4_withMove_3 : decode cX4_withMove 3 = .ok (.dup, 1) := by decide +kernel
theorem dX4_withMove_4 : decode cX4_withMove 4 = .ok (.aload_n 0, 1) := by decide +kernel
theorem dX4_withMove_5 : decode cX4_withMove 5 = .ok (.invokespecial 74, 3) := by decide +kernel
theorem dX4_withMove_8 : decode cX4_withMove 8 = .ok (.astore_n 3, 1) := by decide +kernel
theorem dX4_withMove_9 : decode cX4_withMove 9 = .ok (.aload_n 3, 1) := by decide +kernel
theorem dX4_withMove_10 : decode cX4_withMove 10 = .ok (.iload_n 1, 1) := by decide +kernel
theorem dX4_withMove_11 : decode cX4_withMove 11 = .ok (.iload_n 2, 1) := by decide +kernel
theorem dX4_withMove_12 : decode cX4_withMove 12 = .ok (.invokevirtual 79, 3) := by decide +kernel
theorem dX4_withMove_15 : decode cX4_withMove 15 = .ok (.aload_n 3, 1) := by decide +kernel
theorem dX4_withMove_16 : decode cX4_withMove 16 = .ok (.iload_n 1, 1) := by decide +kernel
theorem dX4_withMove_17 : decode cX4_withMove 17 = .ok (.invokevirtual 83, 3) := by decide +kernel
theorem dX4_withMove_20 : decode cX4_withMove 20 = .ok (.aload_n 3, 1) := by decide +kernel
theorem dX4_withMove_21 : decode cX4_withMove 21 = .ok (.areturn, 1) := by decide +kernel
theorem lk_X4_withMove : LK yX4_withMove cX4_withMove 4 (some (.object "MeetingServer$Version")) 2 := ⟨qW_at 1138 (by decide +kernel) rfl, qW_at 42 (by decide +kernel) rfl, by decide, by decide, by decide +kernel⟩
theorem im_X4_withMove : Cond.instanceMethod yX4_withMove ∈ qW := qW_at 1136 (by decide +kernel) rfl
theorem se_X4_withMove : Cond.selects RX4 yX4_withMove yX4_withMove ∈ qW := qW_at 1137 (by decide +kernel) rfl
def F_X4_withMove (this : Nat) (day_ : Int32) (local_ : Int32) : QX (Option Nat) :=
  (xb (xb (xnew 5) fun r1 => xb (xb (xp (some this)) fun v2 => xo 5 r1 fun q => F_X4_init_ q v2) fun _ => xp r1) fun next_4 =>
  (xb (xb (xp next_4) fun v5 => xb (xp day_) fun v6 => xb (xp local_) fun v7 => xo 5 v5 fun q => F_X4_putMoved q v6 v7) fun _ =>
  (xb (xb (xp next_4) fun v8 => xb (xp day_) fun v9 => xo 5 v8 fun q => F_X4_putStand q v9) fun _ =>
  (xp next_4))))
set_option maxRecDepth 100000 in
set_option maxHeartbeats 4000000 in
theorem M_X4_withMove (this : Nat) (day_ : Int32) (local_ : Int32) : MM yX4_withMove cX4_withMove 4 (some (.object "MeetingServer$Version")) 2 44 3 137 encR [.ref this, .int day_, .int local_] (F_X4_withMove this day_ local_) := by
  refine MM_of (env0 := [(0, va_rf (some this)), (1, .int day_), (2, .int local_)]) (by decide) (by exact Nat.le_of_ble_eq_true rfl) (by rfl) (fun k mm res X C hR hN hr hname h => ?_)
  have X : CX k cX4_withMove RX4 := X
  have hT : TH k (fun e m' => res = (.error e, m')) := TH_of C
  have htr := C.2.2.2.1
  unfold F_X4_withMove at h
  exact SB_go (T := fun e m' => res = (.error e, m')) (RET := fun v m' => res = (.ok v, m')) (SB_let (XE_new (c := 5) (ks0 := 17) (kc0 := 1) (fun st mm a b hc hs h => g_new (c := 5) tyX4 X rfl inW4 tyX4_ok cl_X4_10 in_4 ii_4 (by decide +kernel) hc hs dX4_withMove_0 h) (S_dup X dX4_withMove_3) (OP_args1  (L_aload_n (r := (some this)) 0 X dX4_withMove_4 rfl rfl) (fun r v0 st mm a b hd hc hs h => g_callIo (st := st) (cI := 5) X hT htr (fun q => M_X4_init_ q v0) lk_X4_init_ im_X4_init_ rfl ml_X4_74 rfl (by rw [hR]; exact ⟨Nat.le_of_ble_eq_true rfl, Nat.le_of_ble_eq_true rfl⟩) (Nat.le_trans hd (by decide)) ⟨hc, hs⟩ dX4_withMove_5 h)) rfl) (S_astore_n (ev := fun next_4 => [(3, va_rf next_4), (0, va_rf (some this)), (1, .int day_), (2, .int local_)]) X dX4_withMove_8 rfl (by rw [hN]; decide) (fun _ => rfl)) fun next_4 =>
  (SB_do (XE_3 (pB := pU) wR wI (L_aload_n (r := next_4) 0 X dX4_withMove_9 rfl rfl) (L_iload_n (x := day_) 2 X dX4_withMove_10 rfl rfl) (L_iload_n (x := local_) 3 X dX4_withMove_11 rfl rfl) (fun v0 v1 v2 st mm a b hd hc hs h => g_callVo (st := st) (cI := 5) X hT htr rfl (fun q => M_X4_putMoved q v1 v2) lk_X4_putMoved im_X4_putMoved se_X4_putMoved ml_X4_79 rfl (by rw [hR]; exact ⟨Nat.le_of_ble_eq_true rfl, Nat.le_of_ble_eq_true rfl⟩) (Nat.le_trans hd (by decide)) ⟨hc, hs⟩ dX4_withMove_12 h))
  (SB_do (XE_2 (pB := pU) wR (L_aload_n (r := next_4) 0 X dX4_withMove_15 rfl rfl) (L_iload_n (x := day_) 2 X dX4_withMove_16 rfl rfl) (fun v0 v1 st mm a b hd hc hs h => g_callVo (st := st) (cI := 5) X hT htr rfl (fun q => M_X4_putStand q v1) lk_X4_putStand im_X4_putStand se_X4_putStand ml_X4_83 rfl (by rw [hR]; exact ⟨Nat.le_of_ble_eq_true rfl, Nat.le_of_ble_eq_true rfl⟩) (Nat.le_trans hd (by decide)) ⟨hc, hs⟩ dX4_withMove_17 h))
  (SB_retR X C hr (Or.inl ⟨_, rfl⟩) dX4_withMove_21 (L_aload_n (r := next_4) 0 X dX4_withMove_20 rfl rfl))))) h (by rw [hR]; decide) (by rw [hR]; decide)
