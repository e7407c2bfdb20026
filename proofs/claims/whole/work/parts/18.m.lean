theorem dX7_becomes_0 : decode cX7_becomes 0 = .ok (.aload_n 0, 1) := by decide +kernel
theorem dX7_becomes_1 : decode cX7_becomes 1 = .ok (.getfield 99, 3) := by decide +kernel
theorem dX7_becomes_4 : decode cX7_becomes 4 = .ok (.iload_n 1, 1) := by decide +kernel
theorem dX7_becomes_5 : decode cX7_becomes 5 = .ok (.iaload, 1) := by decide +kernel
theorem dX7_becomes_6 : decode cX7_becomes 6 = .ok (.aload_n 0, 1) := by decide +kernel
theorem dX7_becomes_7 : decode cX7_becomes 7 = .ok (.getfield 102, 3) := by decide +kernel
theorem dX7_becomes_10 : decode cX7_becomes 10 = .ok (.iload_n 1, 1) := by decide +kernel
theorem dX7_becomes_11 : decode cX7_becomes 11 = .ok (.iaload, 1) := by decide +kernel
theorem dX7_becomes_12 : decode cX7_becomes 12 = .ok (.invokestatic 171, 3) := by decide +kernel
theorem dX7_becomes_15 : decode cX7_becomes 15 = .ok (.istore_n 2, 1) := by decide +kernel
theorem dX7_becomes_16 : decode cX7_becomes 16 = .ok (.aload_n 0, 1) := by decide +kernel
theorem dX7_becomes_17 : decode cX7_becomes 17 = .ok (.getfield 81, 3) := by decide +kernel
theorem dX7_becomes_20 : decode cX7_becomes 20 = .ok (.iload_n 2, 1) := by decide +kernel
theorem dX7_becomes_21 : decode cX7_becomes 21 = .ok (.iaload, 1) := by decide +kernel
theorem dX7_becomes_22 : decode cX7_becomes 22 = .ok (.iconst (-1), 1) := by decide +kernel
theorem dX7_becomes_23 : decode cX7_becomes 23 = .ok (.if_icmp .eq 23, 3) := by decide +kernel
theorem dX7_becomes_26 : decode cX7_becomes 26 = .ok (.aload_n 0, 1) := by decide +kernel
theorem dX7_becomes_27 : decode cX7_becomes 27 = .ok (.getfield 32, 3) := by decide +kernel
theorem dX7_becomes_30 : decode cX7_becomes 30 = .ok (.aload_n 0, 1) := by decide +kernel
theorem dX7_becomes_31 : decode cX7_becomes 31 = .ok (.getfield 81, 3) := by decide +kernel
theorem dX7_becomes_34 : decode cX7_becomes 34 = .ok (.iload_n 2, 1) := by decide +kernel
theorem dX7_becomes_35 : decode cX7_becomes 35 = .ok (.iaload, 1) := by decide +kernel
theorem dX7_becomes_36 : decode cX7_becomes 36 = .ok (.iaload, 1) := by decide +kernel
theorem dX7_becomes_37 : decode cX7_becomes 37 = .ok (.aload_n 0, 1) := by decide +kernel
theorem dX7_becomes_38 : decode cX7_becomes 38 = .ok (.getfield 108, 3) := by decide +kernel
theorem dX7_becomes_41 : decode cX7_becomes 41 = .ok (.iload_n 1, 1) := by decide +kernel
theorem dX7_becomes_42 : decode cX7_becomes 42 = .ok (.iaload, 1) := by decide +kernel
theorem dX7_becomes_43 : decode cX7_becomes 43 = .ok (.if_icmp .ge 7, 3) := by decide +kernel
theorem dX7_becomes_46 : decode cX7_becomes 46 = .ok (.iconst 1, 1) := by decide +kernel
theorem dX7_becomes_47 : decode cX7_becomes 47 = .ok (.goto 4, 3) := by decide +kernel
theorem dX7_becomes_50 : decode cX7_becomes 50 = .ok (.iconst 0, 1) := by decide +kernel
theorem dX7_becomes_51 : decode cX7_becomes 51 = .ok (.istore_n 3, 1) := by decide +kernel
theorem dX7_becomes_52 : decode cX7_becomes 52 = .ok (.iload_n 3, 1) := by decide +kernel
theorem dX7_becomes_53 : decode cX7_becomes 53 = .ok (.ifCond .eq 31, 3) := by decide +kernel
theorem dX7_becomes_56 : decode cX7_becomes 56 = .ok (.aload_n 0, 1) := by decide +kernel
theorem dX7_becomes_57 : decode cX7_becomes 57 = .ok (.getfield 81, 3) := by decide +kernel
theorem dX7_becomes_60 : decode cX7_becomes 60 = .ok (.iload_n 2, 1) := by decide +kernel
theorem dX7_becomes_61 : decode cX7_becomes 61 = .ok (.aload_n 0, 1) := by decide +kernel
theorem dX7_becomes_62 : decode cX7_becomes 62 = .ok (.getfield 105, 3) := by decide +kernel
theorem dX7_becomes_65 : decode cX7_becomes 65 = .ok (.iload_n 1, 1) := by decide +kernel
theorem dX7_becomes_66 : decode cX7_becomes 66 = .ok (.iaload, 1) := by decide +kernel
theorem dX7_becomes_67 : decode cX7_becomes 67 = .ok (.iastore, 1) := by decide +kernel
theorem dX7_becomes_68 : decode cX7_becomes 68 = .ok (.aload_n 0, 1) := by decide +kernel
theorem dX7_becomes_69 : decode cX7_becomes 69 = .ok (.aload_n 0, 1) := by decide +kernel
theorem dX7_becomes_70 : decode cX7_becomes 70 = .ok (.getfield 99, 3) := by decide +kernel
theorem dX7_becomes_73 : decode cX7_becomes 73 = .ok (.iload_n 1, 1) := by decide +kernel
theorem dX7_becomes_74 : decode cX7_becomes 74 = .ok (.iaload, 1) := by decide +kernel
theorem dX7_becomes_75 : decode cX7_becomes 75 = .ok (.aload_n 0, 1) := by decide +kernel
theorem dX7_becomes_76 : decode cX7_becomes 76 = .ok (.getfield 102, 3) := by decide +kernel
theorem dX7_becomes_79 : decode cX7_becomes 79 = .ok (.iload_n 1, 1) := by decide +kernel
theorem dX7_becomes_80 : decode cX7_becomes 80 = .ok (.iaload, 1) := by decide +kernel
theorem dX7_becomes_81 : decode cX7_becomes 81 = .ok (.invokevirtual 191, 3) := by decide +kernel
theorem dX7_becomes_84 : decode cX7_becomes 84 = .ok (.iload_n 3, 1) := by decide +kernel
theorem dX7_becomes_85 : decode cX7_becomes 85 = .ok (.ireturn, 1) := by decide +kernel
theorem lk_X7_becomes : LK yX7_becomes cX7_becomes 4 (some .boolean) 1 := ⟨qW_at 1660 (by decide +kernel) rfl, qW_at 78 (by decide +kernel) rfl, by decide, by decide, by decide +kernel⟩
theorem im_X7_becomes : Cond.instanceMethod yX7_becomes ∈ qW := qW_at 1659 (by decide +kernel) rfl
theorem se_X7_becomes : Cond.selects RX7 yX7_becomes yX7_becomes ∈ qW := qW_at 56 (by decide +kernel) rfl
def F_X7_becomes (this : Nat) (message_ : Int32) : QX Int32 :=
  (xb (xb (xb (xb (xp (some this)) fun v1 => xgr 8 33 v1) fun v2 => xb (xp message_) fun v3 => xai 0 v2 v3) fun v7 => xb (xb (xb (xp (some this)) fun v4 => xgr 8 34 v4) fun v5 => xb (xp message_) fun v6 => xai 0 v5 v6) fun v8 => F_X7_at v7 v8) fun place_9 =>
  (xb (xb (xb (xb (xb (xb (xp (some this)) fun v10 => xgr 8 25 v10) fun v11 => xb (xp place_9) fun v12 => xai 0 v11 v12) fun v13 => xb (xp (-1 : Int32)) fun v14 => xp (decide (v13 = v14))) fun v26 => if v26 then xp true else (xb (xb (xb (xp (some this)) fun v15 => xgr 8 9 v15) fun v19 => xb (xb (xb (xp (some this)) fun v16 => xgr 8 25 v16) fun v17 => xb (xp place_9) fun v18 => xai 0 v17 v18) fun v20 => xai 0 v19 v20) fun v21 => xb (xb (xb (xp (some this)) fun v22 => xgr 8 36 v22) fun v23 => xb (xp message_) fun v24 => xai 0 v23 v24) fun v25 => xp (decide (v21 < v25)))) fun v27 => xp (b2i v27)) fun is_28 =>
  (xb (xb (xb (xp is_28) fun v29 => xp (decide (¬ v29 = 0))) fun v46 => if v46 then (xb (xb (xb (xp (some this)) fun v30 => xgr 8 25 v30) fun v34 => xb (xp place_9) fun v35 => xb (xb (xb (xp (some this)) fun v31 => xgr 8 35 v31) fun v32 => xb (xp message_) fun v33 => xai 0 v32 v33) fun v36 => xsai v34 v35 v36) fun _ =>
  (xb (xb (xp (some this)) fun v43 => xb (xb (xb (xp (some this)) fun v37 => xgr 8 33 v37) fun v38 => xb (xp message_) fun v39 => xai 0 v38 v39) fun v44 => xb (xb (xb (xp (some this)) fun v40 => xgr 8 34 v40) fun v41 => xb (xp message_) fun v42 => xai 0 v41 v42) fun v45 => xo 8 v43 fun q => F_X7_marks q v44 v45) fun _ =>
  (xp ()))) else (xp ())) fun s47 =>
  (xb (xp is_28) xz))))
set_option maxRecDepth 100000 in
set_option maxHeartbeats 4000000 in
theorem M_X7_becomes (this : Nat) (message_ : Int32) : MM yX7_becomes cX7_becomes 4 (some .boolean) 3 69 0 0 encI [.ref this, .int message_] (F_X7_becomes this message_) := by
  refine MM_of (env0 := [(0, va_rf (some this)), (1, .int message_)]) (by decide) (by exact Nat.le_of_ble_eq_true rfl) (by rfl) (fun k mm res X C hR hN hr hname h => ?_)
  have X : CX k cX7_becomes RX7 := X
  have hT : TH k (fun e m' => res = (.error e, m')) := TH_of C
  have htr := C.2.2.2.1
  unfold F_X7_becomes at h
  exact SB_go (T := fun e m' => res = (.error e, m')) (RET := fun v m' => res = (.ok v, m')) (SB_let (XE_2 (pB := pI) wI (XE_2 wR (XE_1 (L_aload_n (r := (some this)) 0 X dX7_becomes_0 rfl rfl) (O_gr (c := 8) (j := 33) X rfl inW7 (by decide) fl_X7_99 rfl dX7_becomes_1)) (L_iload_n (x := message_) 1 X dX7_becomes_4 rfl rfl) (O_ai X dX7_becomes_5)) (XE_2 wR (XE_1 (L_aload_n (r := (some this)) 0 X dX7_becomes_6 rfl rfl) (O_gr (c := 8) (j := 34) X rfl inW7 (by decide) fl_X7_102 rfl dX7_becomes_7)) (L_iload_n (x := message_) 1 X dX7_becomes_10 rfl rfl) (O_ai X dX7_becomes_11)) (fun v0 v1 st mm a b hd hc hs h => g_callS (st := st) X hT htr (M_X7_at v0 v1) lk_X7_at st_X7_at ml_X7_171 rfl (by rw [hR]; exact ⟨Nat.le_of_ble_eq_true rfl, Nat.le_of_ble_eq_true rfl⟩) (Nat.le_trans hd (by decide)) ⟨hc, hs⟩ dX7_becomes_12 h)) (S_istore_n (ev := fun place_9 => [(2, .int place_9), (0, va_rf (some this)), (1, .int message_)]) X dX7_becomes_15 rfl (by rw [hN]; decide) (fun _ => rfl)) fun place_9 =>
  (SB_let (XE_b2i (CE_or (CE_2 wI (XE_2 wR (XE_1 (L_aload_n (r := (some this)) 1 X dX7_becomes_16 rfl rfl) (O_gr (c := 8) (j := 25) X rfl inW7 (by decide) fl_X7_81 rfl dX7_becomes_17)) (L_iload_n (x := place_9) 0 X dX7_becomes_20 rfl rfl) (O_ai X dX7_becomes_21)) (L_iconst (v := (-1)) X dX7_becomes_22 (by decide)) (C_eq_T X dX7_becomes_23 (by decide))) (CE_2 wI (XE_2 wR (XE_1 (L_aload_n (r := (some this)) 1 X dX7_becomes_26 rfl rfl) (O_gr (c := 8) (j := 9) X rfl inW7 (by decide) fl_X7_32 rfl dX7_becomes_27)) (XE_2 wR (XE_1 (L_aload_n (r := (some this)) 1 X dX7_becomes_30 rfl rfl) (O_gr (c := 8) (j := 25) X rfl inW7 (by decide) fl_X7_81 rfl dX7_becomes_31)) (L_iload_n (x := place_9) 0 X dX7_becomes_34 rfl rfl) (O_ai X dX7_becomes_35)) (O_ai X dX7_becomes_36)) (XE_2 wR (XE_1 (L_aload_n (r := (some this)) 1 X dX7_becomes_37 rfl rfl) (O_gr (c := 8) (j := 36) X rfl inW7 (by decide) fl_X7_108 rfl dX7_becomes_38)) (L_iload_n (x := message_) 2 X dX7_becomes_41 rfl rfl) (O_ai X dX7_becomes_42)) (C_lt_F X dX7_becomes_43 (by decide)))) (S_b1 X dX7_becomes_46 dX7_becomes_47 (by decide)) (S_b0 X dX7_becomes_50)) (S_istore_n (ev := fun is_28 => [(3, .int is_28), (2, .int place_9), (0, va_rf (some this)), (1, .int message_)]) X dX7_becomes_51 rfl (by rw [hN]; decide) (fun _ => rfl)) fun is_28 =>
  (SB_seq (ST_if (CE_1 (L_iload_n (x := is_28) 0 X dX7_becomes_52 rfl rfl) (Z_ne_F X dX7_becomes_53 (by decide)))
  (ST_do (XE_3 wR wI (XE_1 (L_aload_n (r := (some this)) 2 X dX7_becomes_56 rfl rfl) (O_gr (c := 8) (j := 25) X rfl inW7 (by decide) fl_X7_81 rfl dX7_becomes_57)) (L_iload_n (x := place_9) 1 X dX7_becomes_60 rfl rfl) (XE_2 wR (XE_1 (L_aload_n (r := (some this)) 2 X dX7_becomes_61 rfl rfl) (O_gr (c := 8) (j := 35) X rfl inW7 (by decide) fl_X7_105 rfl dX7_becomes_62)) (L_iload_n (x := message_) 3 X dX7_becomes_65 rfl rfl) (O_ai X dX7_becomes_66)) (O_sai X dX7_becomes_67))
  (ST_do (XE_3 (pB := pU) wR wI (L_aload_n (r := (some this)) 2 X dX7_becomes_68 rfl rfl) (XE_2 wR (XE_1 (L_aload_n (r := (some this)) 2 X dX7_becomes_69 rfl rfl) (O_gr (c := 8) (j := 33) X rfl inW7 (by decide) fl_X7_99 rfl dX7_becomes_70)) (L_iload_n (x := message_) 3 X dX7_becomes_73 rfl rfl) (O_ai X dX7_becomes_74)) (XE_2 wR (XE_1 (L_aload_n (r := (some this)) 2 X dX7_becomes_75 rfl rfl) (O_gr (c := 8) (j := 34) X rfl inW7 (by decide) fl_X7_102 rfl dX7_becomes_76)) (L_iload_n (x := message_) 3 X dX7_becomes_79 rfl rfl) (O_ai X dX7_becomes_80)) (fun v0 v1 v2 st mm a b hd hc hs h => g_callVo (st := st) (cI := 8) X hT htr rfl (fun q => M_X7_marks q v1 v2) lk_X7_marks im_X7_marks se_X7_marks ml_X7_191 rfl (by rw [hR]; exact ⟨Nat.le_of_ble_eq_true rfl, Nat.le_of_ble_eq_true rfl⟩) (Nat.le_trans hd (by decide)) ⟨hc, hs⟩ dX7_becomes_81 h))
  (ST_done (upd := (fun (s : Unit) => [(3, .int is_28), (2, .int place_9), (0, va_rf (some this)), (1, .int message_)])) (s := ()) [0, 1, 2, 3] rfl)))
  (ST_done (upd := (fun (s : Unit) => [(3, .int is_28), (2, .int place_9), (0, va_rf (some this)), (1, .int message_)])) (s := ()) [0, 1, 2, 3] rfl)) fun s47 =>
  (SB_retZ X C hr dX7_becomes_85 (L_iload_n (x := is_28) 0 X dX7_becomes_84 rfl rfl))))) h (by rw [hR]; decide) (by rw [hR]; decide)
theorem dX7_deliver_0 : decode cX7_deliver 0 = .ok (.aload_n 0, 1) := by decide +kernel
theorem dX7_deliver_1 : decode cX7_deliver 1 = .ok (.aload_n 0, 1) := by decide +kernel
theorem dX7_deliver_2 : decode cX7_deliver 2 = .ok (.iload_n 1, 1) := by decide +kernel
theorem dX7_deliver_3 : decode cX7_deliver 3 = .ok (.invokevirtual 267, 3) := by decide +kernel
theorem dX7_deliver_6 : decode cX7_deliver 6 = .ok (.iconst 1, 1) := by decide +kernel
theorem dX7_deliver_7 : decode cX7_deliver 7 = .ok (.iconst 1, 1) := by decide +kernel
theorem dX7_deliver_8 : decode cX7_deliver 8 = .ok (.invokevirtual 153, 3) := by decide +kernel
theorem dX7_deliver_11 : decode cX7_deliver 11 = .ok (.ifCond .ne 5, 3) := by decide +kernel
theorem dX7_deliver_14 : decode cX7_deliver 14 = .ok (.iconst 0, 1) := by decide +kernel
theorem dX7_deliver_15 : decode cX7_deliver 15 = .ok (.ireturn, 1) := by decide +kernel
theorem dX7_deliver_16 : decode cX7_deliver 16 = .ok (.aload_n 0, 1) := by decide +kernel
theorem dX7_deliver_17 : decode cX7_deliver 17 = .ok (.getfield 126, 3) := by decide +kernel
theorem dX7_deliver_20 : decode cX7_deliver 20 = .ok (.iload_n 1, 1) := by decide +kernel
theorem dX7_deliver_21 : decode cX7_deliver 21 = .ok (.baload, 1) := by decide +kernel
theorem dX7_deliver_22 : decode cX7_deliver 22 = .ok (.istore_n 2, 1) := by decide +kernel
theorem dX7_deliver_23 : decode cX7_deliver 23 = .ok (.aload_n 0, 1) := by decide +kernel
theorem dX7_deliver_24 : decode cX7_deliver 24 = .ok (.getfield 93, 3) := by decide +kernel
theorem dX7_deliver_27 : decode cX7_deliver 27 = .ok (.iload_n 1, 1) := by decide +kernel
theorem dX7_deliver_28 : decode cX7_deliver 28 = .ok (.iaload, 1) := by decide +kernel
theorem dX7_deliver_29 : decode cX7_deliver 29 = .ok (.ifCond .ne 9, 3) := by decide +kernel
theorem dX7_deliver_32 : decode cX7_deliver 32 = .ok (.aload_n 0, 1) := by decide +kernel
theorem dX7_deliver_33 : decode cX7_deliver 33 = .ok (.iload_n 1, 1) := by decide +kernel
theorem dX7_deliver_34 : decode cX7_deliver 34 = .ok (.invokevirtual 273, 3) := by decide +kernel
theorem dX7_deliver_37 : decode cX7_deliver 37 = .ok (.ireturn, 1) := by decide +kernel
theorem dX7_deliver_38 : decode cX7_deliver 38 = .ok (.aload_n 0, 1) := by decide +kernel
theorem dX7_deliver_39 : decode cX7_deliver 39 = .ok (.getfield 126, 3) := by decide +kernel
theorem dX7_deliver_42 : decode cX7_deliver 42 = .ok (.iload_n 1, 1) := by decide +kernel
theorem dX7_deliver_43 : decode cX7_deliver 43 = .ok (.iconst 1, 1) := by decide +kernel
theorem dX7_deliver_44 : decode cX7_deliver 44 = .ok (.bastore, 1) := by decide +kernel
theorem dX7_deliver_45 : decode cX7_deliver 45 = .ok (.iload_n 2, 1) := by decide +kernel
theorem dX7_deliver_46 : decode cX7_deliver 46 = .ok (.ifCond .ne 43, 3) := by decide +kernel
theorem dX7_deliver_49 : decode cX7_deliver 49 = .ok (.aload_n 0, 1) := by decide +kernel
theorem dX7_deliver_50 : decode cX7_deliver 50 = .ok (.getfield 93, 3) := by decide +kernel
theorem dX7_deliver_53 : decode cX7_deliver 53 = .ok (.iload_n 1, 1) := by decide +kernel
theorem dX7_deliver_54 : decode cX7_deliver 54 = .ok (.iaload, 1) := by decide +kernel
theorem dX7_deliver_55 : decode cX7_deliver 55 = .ok (.iconst 2, 1) := by decide +kernel
theorem dX7_deliver_56 : decode cX7_deliver 56 = .ok (.if_icmp .eq 29, 3) := by decide +kernel
theorem dX7_deliver_59 : decode cX7_deliver 59 = .ok (.aload_n 0, 1) := by decide +kernel
theorem dX7_deliver_60 : decode cX7_deliver 60 = .ok (.aload_n 0, 1) := by decide +kernel
theorem dX7_deliver_61 : decode cX7_deliver 61 = .ok (.getfield 102, 3) := by decide +kernel
theorem dX7_deliver_64 : decode cX7_deliver 64 = .ok (.iload_n 1, 1) := by decide +kernel
theorem dX7_deliver_65 : decode cX7_deliver 65 = .ok (.iaload, 1) := by decide +kernel
theorem dX7_deliver_66 : decode cX7_deliver 66 = .ok (.aload_n 0, 1) := by decide +kernel
theorem dX7_deliver_67 : decode cX7_deliver 67 = .ok (.getfield 96, 3) := by decide +kernel
theorem dX7_deliver_70 : decode cX7_deliver 70 = .ok (.iload_n 1, 1) := by decide +kernel
theorem dX7_deliver_71 : decode cX7_deliver 71 = .ok (.iaload, 1) := by decide +kernel
theorem dX7_deliver_72 : decode cX7_deliver 72 = .ok (.aload_n 0, 1) := by decide +kernel
theorem dX7_deliver_73 : decode cX7_deliver 73 = .ok (.getfield 111, 3) := by decide +kernel
theorem dX7_deliver_76 : decode cX7_deliver 76 = .ok (.iload_n 1, 1) := by decide +kernel
theorem dX7_deliver_77 : decode cX7_deliver 77 = .ok (.iaload, 1) := by decide +kernel
theorem dX7_deliver_78 : decode cX7_deliver 78 = .ok (.invokevirtual 239, 3) := by decide +kernel
theorem dX7_deliver_81 : decode cX7_deliver 81 = .ok (.iload_n 1, 1) := by decide +kernel
theorem dX7_deliver_82 : decode cX7_deliver 82 = .ok (.if_icmp .ne 7, 3) := by decide +kernel
theorem dX7_deliver_85 : decode cX7_deliver 85 = .ok (.iconst 1, 1) := by decide +kernel
theorem dX7_deliver_86 : decode cX7_deliver 86 = .ok (.goto 4, 3) := by decide +kernel
theorem dX7_deliver_89 : decode cX7_deliver 89 = .ok (.iconst 0, 1) := by decide +kernel
theorem dX7_deliver_90 : decode cX7_deliver 90 = .ok (.istore_n 3, 1) := by decide +kernel
theorem dX7_deliver_91 : decode cX7_deliver 91 = .ok (.iload_n 3, 1) := by decide +kernel
theorem dX7_deliver_92 : decode cX7_deliver 92 = .ok (.ifCond .eq 29, 3) := by decide +kernel
theorem dX7_deliver_95 : decode cX7_deliver 95 = .ok (.aload_n 0, 1) := by decide +kernel
theorem dX7_deliver_96 : decode cX7_deliver 96 = .ok (.getfield 93, 3) := by decide +kernel
theorem dX7_deliver_99 : decode cX7_deliver 99 = .ok (.iload_n 1, 1) := by decide +kernel
theorem dX7_deliver_100 : decode cX7_deliver 100 = .ok (.iaload, 1) := by decide +kernel
theorem dX7_deliver_101 : decode cX7_deliver 101 = .ok (.iconst 1, 1) := by decide +kernel
theorem dX7_deliver_102 : decode cX7_deliver 102 = .ok (.if_icmp .ne 19, 3) := by decide +kernel
theorem dX7_deliver_105 : decode cX7_deliver 105 = .ok (.aload_n 0, 1) := by decide +kernel
theorem dX7_deliver_106 : decode cX7_deliver 106 = .ok (.aload_n 0, 1) := by decide +kernel
theorem dX7_deliver_107 : decode cX7_deliver 107 = .ok (.getfield 99, 3) := by decide +kernel
theorem dX7_deliver_110 : decode cX7_deliver 110 = .ok (.iload_n 1, 1) := by decide +kernel
theorem dX7_deliver_111 : decode cX7_deliver 111 = .ok (.iaload, 1) := by decide +kernel
theorem dX7_deliver_112 : decode cX7_deliver 112 = .ok (.aload_n 0, 1) := by decide +kernel
theorem dX7_deliver_113 : decode cX7_deliver 113 = .ok (.getfield 102, 3) := by decide +kernel
theorem dX7_deliver_116 : decode cX7_deliver 116 = .ok (.iload_n 1, 1) := by decide +kernel
theorem dX7_deliver_117 : decode cX7_deliver 117 = .ok (.iaload, 1) := by decide +kernel
theorem dX7_deliver_118 : decode cX7_deliver 118 = .ok (.invokevirtual 191, 3) := by decide +kernel
theorem dX7_deliver_121 : decode cX7_deliver 121 = .ok (.iload_n 3, 1) := by decide +kernel
theorem dX7_deliver_122 : decode cX7_deliver 122 = .ok (.ireturn, 1) := by decide +kernel
theorem lk_X7_deliver : LK yX7_deliver cX7_deliver 4 (some .boolean) 1 := ⟨qW_at 1656 (by decide +kernel) rfl, qW_at 78 (by decide +kernel) rfl, by decide, by decide, by decide +kernel⟩
theorem im_X7_deliver : Cond.instanceMethod yX7_deliver ∈ qW := qW_at 1654 (by decide +kernel) rfl
theorem se_X7_deliver : Cond.selects RX7 yX7_deliver yX7_deliver ∈ qW := qW_at 1655 (by decide +kernel) rfl
def F_X7_deliver (this : Nat) (message_ : Int32) : QX Int32 :=
  (xb (xb (xb (xb (xp (some this)) fun v3 => xb (xb (xp (some this)) fun v1 => xb (xp message_) fun v2 => xo 8 v1 fun q => F_X7_isMessage q v2) fun v4 => xb (xp (1 : Int32)) fun v5 => xb (xp (1 : Int32)) fun v6 => xo 8 v3 fun q => F_X7_goes q v4 v5 v6) fun v7 => xp (decide (¬ v7 = 0))) fun v8 => xp (!v8)) fun v68 => if v68 then (xb (xp (0 : Int32)) xz) else
  (xb (xb (xb (xp (some this)) fun v9 => xgr 8 42 v9) fun v10 => xb (xp message_) fun v11 => xai 1 v10 v11) fun before_12 =>
  (xb (xb (xb (xb (xp (some this)) fun v13 => xgr 8 31 v13) fun v14 => xb (xp message_) fun v15 => xai 0 v14 v15) fun v16 => xp (decide (v16 = 0))) fun v67 => if v67 then (xb (xb (xp (some this)) fun v17 => xb (xp message_) fun v18 => xo 8 v17 fun q => F_X7_becomes q v18) xz) else
  (xb (xb (xb (xp (some this)) fun v19 => xgr 8 42 v19) fun v20 => xb (xp message_) fun v21 => xb (xp (1 : Int32)) fun v22 => xsaz v20 v21 v22) fun _ =>
  (xb (xb (xb (xb (xb (xp before_12) fun v23 => xp (decide (¬ v23 = 0))) fun v24 => xp (!v24)) fun v46 => if v46 then (xb (xb (xb (xb (xp (some this)) fun v25 => xgr 8 31 v25) fun v26 => xb (xp message_) fun v27 => xai 0 v26 v27) fun v28 => xb (xp (2 : Int32)) fun v29 => xp (decide (v28 = v29))) fun v45 => if v45 then xp true else (xb (xb (xp (some this)) fun v39 => xb (xb (xb (xp (some this)) fun v30 => xgr 8 34 v30) fun v31 => xb (xp message_) fun v32 => xai 0 v31 v32) fun v40 => xb (xb (xb (xp (some this)) fun v33 => xgr 8 32 v33) fun v34 => xb (xp message_) fun v35 => xai 0 v34 v35) fun v41 => xb (xb (xb (xp (some this)) fun v36 => xgr 8 37 v36) fun v37 => xb (xp message_) fun v38 => xai 0 v37 v38) fun v42 => xo 8 v39 fun q => F_X7_kept q v40 v41 v42) fun v43 => xb (xp message_) fun v44 => xp (decide (v43 = v44)))) else xp false) fun v47 => xp (b2i v47)) fun is_48 =>
  (xb (xb (xb (xb (xp is_48) fun v49 => xp (decide (¬ v49 = 0))) fun v55 => if v55 then (xb (xb (xb (xp (some this)) fun v50 => xgr 8 31 v50) fun v51 => xb (xp message_) fun v52 => xai 0 v51 v52) fun v53 => xb (xp (1 : Int32)) fun v54 => xp (decide (v53 = v54))) else xp false) fun v65 => if v65 then (xb (xb (xp (some this)) fun v62 => xb (xb (xb (xp (some this)) fun v56 => xgr 8 33 v56) fun v57 => xb (xp message_) fun v58 => xai 0 v57 v58) fun v63 => xb (xb (xb (xp (some this)) fun v59 => xgr 8 34 v59) fun v60 => xb (xp message_) fun v61 => xai 0 v60 v61) fun v64 => xo 8 v62 fun q => F_X7_marks q v63 v64) fun _ =>
  (xp ())) else (xp ())) fun s66 =>
  (xb (xp is_48) xz)))))))
set_option maxRecDepth 100000 in
set_option maxHeartbeats 4000000 in
theorem M_X7_deliver (this : Nat) (message_ : Int32) : MM yX7_deliver cX7_deliver 4 (some .boolean) 4 92 0 0 encI [.ref this, .int message_] (F_X7_deliver this message_) := by
  refine MM_of (env0 := [(0, va_rf (some this)), (1, .int message_)]) (by decide) (by exact Nat.le_of_ble_eq_true rfl) (by rfl) (fun k mm res X C hR hN hr hname h => ?_)
  have X : CX k cX7_deliver RX7 := X
  have hT : TH k (fun e m' => res = (.error e, m')) := TH_of C
  have htr := C.2.2.2.1
  unfold F_X7_deliver at h
  exact SB_go (T := fun e m' => res = (.error e, m')) (RET := fun v m' => res = (.ok v, m')) (SB_if (CE_not (CE_1 (XE_4 (pB := pI) wR wI wI (L_aload_n (r := (some this)) 0 X dX7_deliver_0 rfl rfl) (XE_2 (pB := pI) wR (L_aload_n (r := (some this)) 0 X dX7_deliver_1 rfl rfl) (L_iload_n (x := message_) 1 X dX7_deliver_2 rfl rfl) (fun v0 v1 st mm a b hd hc hs h => g_callVo (st := st) (cI := 8) X hT htr rfl (fun q => M_X7_isMessage q v1) lk_X7_isMessage im_X7_isMessage se_X7_isMessage ml_X7_267 rfl (by rw [hR]; exact ⟨Nat.le_of_ble_eq_true rfl, Nat.le_of_ble_eq_true rfl⟩) (Nat.le_trans hd (by decide)) ⟨hc, hs⟩ dX7_deliver_3 h)) (L_iconst (v := 1) X dX7_deliver_6 (by decide)) (L_iconst (v := 1) X dX7_deliver_7 (by decide)) (fun v0 v1 v2 v3 st mm a b hd hc hs h => g_callVo (st := st) (cI := 8) X hT htr rfl (fun q => M_X7_goes q v1 v2 v3) lk_X7_goes im_X7_goes se_X7_goes ml_X7_153 rfl (by rw [hR]; exact ⟨Nat.le_of_ble_eq_true rfl, Nat.le_of_ble_eq_true rfl⟩) (Nat.le_trans hd (by decide)) ⟨hc, hs⟩ dX7_deliver_8 h)) (Z_ne_T X dX7_deliver_11 (by decide))))
  (SB_retZ X C hr dX7_deliver_15 (L_iconst (v := 0) X dX7_deliver_14 (by decide)))
  (SB_let (XE_2 wR (XE_1 (L_aload_n (r := (some this)) 0 X dX7_deliver_16 rfl rfl) (O_gr (c := 8) (j := 42) X rfl inW7 (by decide) fl_X7_126 rfl dX7_deliver_17)) (L_iload_n (x := message_) 1 X dX7_deliver_20 rfl rfl) (O_az X dX7_deliver_21)) (S_istore_n (ev := fun before_12 => [(2, .int before_12), (0, va_rf (some this)), (1, .int message_)]) X dX7_deliver_22 rfl (by rw [hN]; decide) (fun _ => rfl)) fun before_12 =>
  (SB_if (CE_1 (XE_2 wR (XE_1 (L_aload_n (r := (some this)) 1 X dX7_deliver_23 rfl rfl) (O_gr (c := 8) (j := 31) X rfl inW7 (by decide) fl_X7_93 rfl dX7_deliver_24)) (L_iload_n (x := message_) 2 X dX7_deliver_27 rfl rfl) (O_ai X dX7_deliver_28)) (Z_eq_F X dX7_deliver_29 (by decide)))
  (SB_retZ X C hr dX7_deliver_37 (XE_2 (pB := pI) wR (L_aload_n (r := (some this)) 1 X dX7_deliver_32 rfl rfl) (L_iload_n (x := message_) 2 X dX7_deliver_33 rfl rfl) (fun v0 v1 st mm a b hd hc hs h => g_callVo (st := st) (cI := 8) X hT htr rfl (fun q => M_X7_becomes q v1) lk_X7_becomes im_X7_becomes se_X7_becomes ml_X7_273 rfl (by rw [hR]; exact ⟨Nat.le_of_ble_eq_true rfl, Nat.le_of_ble_eq_true rfl⟩) (Nat.le_trans hd (by decide)) ⟨hc, hs⟩ dX7_deliver_34 h)))
  (SB_do (XE_3 wR wI (XE_1 (L_aload_n (r := (some this)) 1 X dX7_deliver_38 rfl rfl) (O_gr (c := 8) (j := 42) X rfl inW7 (by decide) fl_X7_126 rfl dX7_deliver_39)) (L_iload_n (x := message_) 2 X dX7_deliver_42 rfl rfl) (L_iconst (v := 1) X dX7_deliver_43 (by decide)) (O_saz X dX7_deliver_44))
  (SB_let (XE_b2i (CE_and (CE_not (CE_1 (L_iload_n (x := before_12) 0 X dX7_deliver_45 rfl rfl) (Z_ne_T X dX7_deliver_46 (by decide)))) (CE_or (CE_2 wI (XE_2 wR (XE_1 (L_aload_n (r := (some this)) 1 X dX7_deliver_49 rfl rfl) (O_gr (c := 8) (j := 31) X rfl inW7 (by decide) fl_X7_93 rfl dX7_deliver_50)) (L_iload_n (x := message_) 2 X dX7_deliver_53 rfl rfl) (O_ai X dX7_deliver_54)) (L_iconst (v := 2) X dX7_deliver_55 (by decide)) (C_eq_T X dX7_deliver_56 (by decide))) (CE_2 wI (XE_4 (pB := pI) wR wI wI (L_aload_n (r := (some this)) 1 X dX7_deliver_59 rfl rfl) (XE_2 wR (XE_1 (L_aload_n (r := (some this)) 1 X dX7_deliver_60 rfl rfl) (O_gr (c := 8) (j := 34) X rfl inW7 (by decide) fl_X7_102 rfl dX7_deliver_61)) (L_iload_n (x := message_) 2 X dX7_deliver_64 rfl rfl) (O_ai X dX7_deliver_65)) (XE_2 wR (XE_1 (L_aload_n (r := (some this)) 1 X dX7_deliver_66 rfl rfl) (O_gr (c := 8) (j := 32) X rfl inW7 (by decide) fl_X7_96 rfl dX7_deliver_67)) (L_iload_n (x := message_) 2 X dX7_deliver_70 rfl rfl) (O_ai X dX7_deliver_71)) (XE_2 wR (XE_1 (L_aload_n (r := (some this)) 1 X dX7_deliver_72 rfl rfl) (O_gr (c := 8) (j := 37) X rfl inW7 (by decide) fl_X7_111 rfl dX7_deliver_73)) (L_iload_n (x := message_) 2 X dX7_deliver_76 rfl rfl) (O_ai X dX7_deliver_77)) (fun v0 v1 v2 v3 st mm a b hd hc hs h => g_callVo (st := st) (cI := 8) X hT htr rfl (fun q => M_X7_kept q v1 v2 v3) lk_X7_kept im_X7_kept se_X7_kept ml_X7_239 rfl (by rw [hR]; exact ⟨Nat.le_of_ble_eq_true rfl, Nat.le_of_ble_eq_true rfl⟩) (Nat.le_trans hd (by decide)) ⟨hc, hs⟩ dX7_deliver_78 h)) (L_iload_n (x := message_) 2 X dX7_deliver_81 rfl rfl) (C_eq_F X dX7_deliver_82 (by decide))))) (S_b1 X dX7_deliver_85 dX7_deliver_86 (by decide)) (S_b0 X dX7_deliver_89)) (S_istore_n (ev := fun is_48 => [(3, .int is_48), (2, .int before_12), (0, va_rf (some this)), (1, .int message_)]) X dX7_deliver_90 rfl (by rw [hN]; decide) (fun _ => rfl)) fun is_48 =>
  (SB_seq (ST_if (CE_and (CE_1 (L_iload_n (x := is_48) 0 X dX7_deliver_91 rfl rfl) (Z_ne_F X dX7_deliver_92 (by decide))) (CE_2 wI (XE_2 wR (XE_1 (L_aload_n (r := (some this)) 2 X dX7_deliver_95 rfl rfl) (O_gr (c := 8) (j := 31) X rfl inW7 (by decide) fl_X7_93 rfl dX7_deliver_96)) (L_iload_n (x := message_) 3 X dX7_deliver_99 rfl rfl) (O_ai X dX7_deliver_100)) (L_iconst (v := 1) X dX7_deliver_101 (by decide)) (C_eq_F X dX7_deliver_102 (by decide))))
  (ST_do (XE_3 (pB := pU) wR wI (L_aload_n (r := (some this)) 2 X dX7_deliver_105 rfl rfl) (XE_2 wR (XE_1 (L_aload_n (r := (some this)) 2 X dX7_deliver_106 rfl rfl) (O_gr (c := 8) (j := 33) X rfl inW7 (by decide) fl_X7_99 rfl dX7_deliver_107)) (L_iload_n (x := message_) 3 X dX7_deliver_110 rfl rfl) (O_ai X dX7_deliver_111)) (XE_2 wR (XE_1 (L_aload_n (r := (some this)) 2 X dX7_deliver_112 rfl rfl) (O_gr (c := 8) (j := 34) X rfl inW7 (by decide) fl_X7_102 rfl dX7_deliver_113)) (L_iload_n (x := message_) 3 X dX7_deliver_116 rfl rfl) (O_ai X dX7_deliver_117)) (fun v0 v1 v2 st mm a b hd hc hs h => g_callVo (st := st) (cI := 8) X hT htr rfl (fun q => M_X7_marks q v1 v2) lk_X7_marks im_X7_marks se_X7_marks ml_X7_191 rfl (by rw [hR]; exact ⟨Nat.le_of_ble_eq_true rfl, Nat.le_of_ble_eq_true rfl⟩) (Nat.le_trans hd (by decide)) ⟨hc, hs⟩ dX7_deliver_118 h))
  (ST_done (upd := (fun (s : Unit) => [(3, .int is_48), (2, .int before_12), (0, va_rf (some this)), (1, .int message_)])) (s := ()) [0, 1, 2, 3] rfl))
  (ST_done (upd := (fun (s : Unit) => [(3, .int is_48), (2, .int before_12), (0, va_rf (some this)), (1, .int message_)])) (s := ()) [0, 1, 2, 3] rfl)) fun s66 =>
  (SB_retZ X C hr dX7_deliver_122 (L_iload_n (x := is_48) 0 X dX7_deliver_121 rfl rfl)))))))) h (by rw [hR]; decide) (by rw [hR]; decide)
theorem dX7_messages_0 : decode cX7_messages 0 = .ok (.aload_n 0, 1) := by decide +kernel
theorem dX7_messages_1 : decode cX7_messages 1 = .ok (.aload_n 0, 1) := by decide +kernel
theorem dX7_messages_2 : decode cX7_messages 2 = .ok (.getfield 146, 3) := by decide +kernel
theorem dX7_messages_5 : decode cX7_messages 5 = .ok (.invokevirtual 276, 3) := by decide +kernel
theorem dX7_messages_8 : decode cX7_messages 8 = .ok (.ireturn, 1) := by decide +kernel
theorem lk_X7_messages : LK yX7_messages cX7_messages 1 (some .int) 0 := ⟨qW_at 1664 (by decide +kernel) rfl, qW_at 78 (by decide +kernel) rfl, by decide, by decide, by decide +kernel⟩
theorem im_X7_messages : Cond.instanceMethod yX7_messages ∈ qW := qW_at 1662 (by decide +kernel) rfl
theorem se_X7_messages : Cond.selects RX7 yX7_messages yX7_messages ∈ qW := qW_at 1663 (by decide +kernel) rfl
def F_X7_messages (this : Nat) : QX Int32 :=
  (xb (xp (some this)) fun v2 => xb (xb (xp (some this)) fun v1 => xgi 8 29 v1) fun v3 => xo 8 v2 fun q => F_X7_tells q v3)
set_option maxRecDepth 100000 in
set_option maxHeartbeats 4000000 in
theorem M_X7_messages (this : Nat) : MM yX7_messages cX7_messages 1 (some .int) 1 21 0 0 encI [.ref this] (F_X7_messages this) := by
  refine MM_of (env0 := [(0, va_rf (some this))]) (by decide) (by exact Nat.le_of_ble_eq_true rfl) (by rfl) (fun k mm res X C hR hN hr hname h => ?_)
  have X : CX k cX7_messages RX7 := X
  have hT : TH k (fun e m' => res = (.error e, m')) := TH_of C
  have htr := C.2.2.2.1
  unfold F_X7_messages at h
  exact SB_go (T := fun e m' => res = (.error e, m')) (RET := fun v m' => res = (.ok v, m')) (SB_retI X C hr dX7_messages_8 (XE_2 (pB := pI) wR (L_aload_n (r := (some this)) 0 X dX7_messages_0 rfl rfl) (XE_1 (L_aload_n (r := (some this)) 0 X dX7_messages_1 rfl rfl) (O_gi (c := 8) (j := 29) X rfl inW7 (by decide) fl_X7_146 rfl dX7_messages_2)) (fun v0 v1 st mm a b hd hc hs h => g_callVo (st := st) (cI := 8) X hT htr rfl (fun q => M_X7_tells q v1) lk_X7_tells im_X7_tells se_X7_tells ml_X7_276 rfl (by rw [hR]; exact ⟨Nat.le_of_ble_eq_true rfl, Nat.le_of_ble_eq_true rfl⟩) (Nat.le_trans hd (by decide)) ⟨hc, hs⟩ dX7_messages_5 h))) h (by rw [hR]; decide) (by rw [hR]; decide)
theorem dX7_kindOf_0 : decode cX7_kindOf 0 = .ok (.aload_n 0, 1) := by decide +kernel
theorem dX7_kindOf_1 : decode cX7_kindOf 1 = .ok (.aload_n 0, 1) := by decide +kernel
theorem dX7_kindOf_2 : decode cX7_kindOf 2 = .ok (.iload_n 1, 1) := by decide +kernel
theorem dX7_kindOf_3 : decode cX7_kindOf 3 = .ok (.invokevirtual 267, 3) := by decide +kernel
theorem dX7_kindOf_6 : decode cX7_kindOf 6 = .ok (.iconst 1, 1) := by decide +kernel
theorem dX7_kindOf_7 : decode cX7_kindOf 7 = .ok (.iconst 1, 1) := by decide +kernel
theorem dX7_kindOf_8 : decode cX7_kindOf 8 = .ok (.invokevirtual 153, 3) := by decide +kernel
theorem dX7_kindOf_11 : decode cX7_kindOf 11 = .ok (.ifCond .eq 12, 3) := by decide +kernel
theorem dX7_kindOf_14 : decode cX7_kindOf 14 = .ok (.aload_n 0, 1) := by decide +kernel
theorem dX7_kindOf_15 : decode cX7_kindOf 15 = .ok (.getfield 93, 3) := by decide +kernel
theorem dX7_kindOf_18 : decode cX7_kindOf 18 = .ok (.iload_n 1, 1) := by decide +kernel
theorem dX7_kindOf_19 : decode cX7_kindOf 19 = .ok (.iaload, 1) := by decide +kernel
theorem dX7_kindOf_20 : decode cX7_kindOf 20 = .ok (.goto 4, 3) := by decide +kernel
theorem dX7_kindOf_23 : decode cX7_kindOf 23 = .ok (.iconst 0, 1) := by decide +kernel
theorem dX7_kindOf_24 : decode cX7_kindOf 24 = .ok (.ireturn, 1) := by decide +kernel
theorem lk_X7_kindOf : LK yX7_kindOf cX7_kindOf 2 (some .int) 1 := ⟨qW_at 1672 (by decide +kernel) rfl, qW_at 78 (by decide +kernel) rfl, by decide, by decide, by decide +kernel⟩
theorem im_X7_kindOf : Cond.instanceMethod yX7_kindOf ∈ qW := qW_at 1670 (by decide +kernel) rfl
theorem se_X7_kindOf : Cond.selects RX7 yX7_kindOf yX7_kindOf ∈ qW := qW_at 1671 (by decide +kernel) rfl
def F_X7_kindOf (this : Nat) (message_ : Int32) : QX Int32 :=
  (xb (xb (xb (xp (some this)) fun v3 => xb (xb (xp (some this)) fun v1 => xb (xp message_) fun v2 => xo 8 v1 fun q => F_X7_isMessage q v2) fun v4 => xb (xp (1 : Int32)) fun v5 => xb (xp (1 : Int32)) fun v6 => xo 8 v3 fun q => F_X7_goes q v4 v5 v6) fun v7 => xp (decide (¬ v7 = 0))) fun v11 => if v11 then (xb (xb (xp (some this)) fun v8 => xgr 8 31 v8) fun v9 => xb (xp message_) fun v10 => xai 0 v9 v10) else (xp (0 : Int32)))
set_option maxRecDepth 100000 in
set_option maxHeartbeats 4000000 in
theorem M_X7_kindOf (this : Nat) (message_ : Int32) : MM yX7_kindOf cX7_kindOf 2 (some .int) 2 43 0 0 encI [.ref this, .int message_] (F_X7_kindOf this message_) := by
  refine MM_of (env0 := [(0, va_rf (some this)), (1, .int message_)]) (by decide) (by exact Nat.le_of_ble_eq_true rfl) (by rfl) (fun k mm res X C hR hN hr hname h => ?_)
  have X : CX k cX7_kindOf RX7 := X
  have hT : TH k (fun e m' => res = (.error e, m')) := TH_of C
  have htr := C.2.2.2.1
  unfold F_X7_kindOf at h
  exact SB_go (T := fun e m' => res = (.error e, m')) (RET := fun v m' => res = (.ok v, m')) (SB_retI X C hr dX7_kindOf_24 (XE_tern (CE_1 (XE_4 (pB := pI) wR wI wI (L_aload_n (r := (some this)) 0 X dX7_kindOf_0 rfl rfl) (XE_2 (pB := pI) wR (L_aload_n (r := (some this)) 0 X dX7_kindOf_1 rfl rfl) (L_iload_n (x := message_) 1 X dX7_kindOf_2 rfl rfl) (fun v0 v1 st mm a b hd hc hs h => g_callVo (st := st) (cI := 8) X hT htr rfl (fun q => M_X7_isMessage q v1) lk_X7_isMessage im_X7_isMessage se_X7_isMessage ml_X7_267 rfl (by rw [hR]; exact ⟨Nat.le_of_ble_eq_true rfl, Nat.le_of_ble_eq_true rfl⟩) (Nat.le_trans hd (by decide)) ⟨hc, hs⟩ dX7_kindOf_3 h)) (L_iconst (v := 1) X dX7_kindOf_6 (by decide)) (L_iconst (v := 1) X dX7_kindOf_7 (by decide)) (fun v0 v1 v2 v3 st mm a b hd hc hs h => g_callVo (st := st) (cI := 8) X hT htr rfl (fun q => M_X7_goes q v1 v2 v3) lk_X7_goes im_X7_goes se_X7_goes ml_X7_153 rfl (by rw [hR]; exact ⟨Nat.le_of_ble_eq_true rfl, Nat.le_of_ble_eq_true rfl⟩) (Nat.le_trans hd (by decide)) ⟨hc, hs⟩ dX7_kindOf_8 h)) (Z_ne_F X dX7_kindOf_11 (by decide))) (XE_2 wR (XE_1 (L_aload_n (r := (some this)) 0 X dX7_kindOf_14 rfl rfl) (O_gr (c := 8) (j := 31) X rfl inW7 (by decide) fl_X7_93 rfl dX7_kindOf_15)) (L_iload_n (x := message_) 1 X dX7_kindOf_18 rfl rfl) (O_ai X dX7_kindOf_19)) (S_goto X dX7_kindOf_20 (by decide)) (L_iconst (v := 0) X dX7_kindOf_23 (by decide)))) h (by rw [hR]; decide) (by rw [hR]; decide)
theorem dX7_receiver_0 : decode cX7_receiver 0 = .ok (.aload_n 0, 1) := by decide +kernel
theorem dX7_receiver_1 : decode cX7_receiver 1 = .ok (.aload_n 0, 1) := by decide +kernel
theorem dX7_receiver_2 : decode cX7_receiver 2 = .ok (.iload_n 1, 1) := by decide +kernel
theorem dX7_receiver_3 : decode cX7_receiver 3 = .ok (.invokevirtual 267, 3) := by decide +kernel
theorem dX7_receiver_6 : decode cX7_receiver 6 = .ok (.iconst 1, 1) := by decide +kernel
theorem dX7_receiver_7 : decode cX7_receiver 7 = .ok (.iconst 1, 1) := by decide +kernel
theorem dX7_receiver_8 : decode cX7_receiver 8 = .ok (.invokevirtual 153, 3) := by decide +kernel
theorem dX7_receiver_11 : decode cX7_receiver 11 = .ok (.ifCond .eq 12, 3) := by decide +kernel
theorem dX7_receiver_14 : decode cX7_receiver 14 = .ok (.aload_n 0, 1) := by decide +kernel
theorem dX7_receiver_15 : decode cX7_receiver 15 = .ok (.getfield 99, 3) := by decide +kernel
theorem dX7_receiver_18 : decode cX7_receiver 18 = .ok (.iload_n 1, 1) := by decide +kernel
theorem dX7_receiver_19 : decode cX7_receiver 19 = .ok (.iaload, 1) := by decide +kernel
theorem dX7_receiver_20 : decode cX7_receiver 20 = .ok (.goto 4, 3) := by decide +kernel
theorem dX7_receiver_23 : decode cX7_receiver 23 = .ok (.iconst 0, 1) := by decide +kernel
theorem dX7_receiver_24 : decode cX7_receiver 24 = .ok (.ireturn, 1) := by decide +kernel
theorem lk_X7_receiver : LK yX7_receiver cX7_receiver 2 (some .int) 1 := ⟨qW_at 1676 (by decide +kernel) rfl, qW_at 78 (by decide +kernel) rfl, by decide, by decide, by decide +kernel⟩
theorem im_X7_receiver : Cond.instanceMethod yX7_receiver ∈ qW := qW_at 1674 (by decide +kernel) rfl
theorem se_X7_receiver : Cond.selects RX7 yX7_receiver yX7_receiver ∈ qW := qW_at 1675 (by decide +kernel) rfl
def F_X7_receiver (this : Nat) (message_ : Int32) : QX Int32 :=
  (xb (xb (xb (xp (some this)) fun v3 => xb (xb (xp (some this)) fun v1 => xb (xp message_) fun v2 => xo 8 v1 fun q => F_X7_isMessage q v2) fun v4 => xb (xp (1 : Int32)) fun v5 => xb (xp (1 : Int32)) fun v6 => xo 8 v3 fun q => F_X7_goes q v4 v5 v6) fun v7 => xp (decide (¬ v7 = 0))) fun v11 => if v11 then (xb (xb (xp (some this)) fun v8 => xgr 8 33 v8) fun v9 => xb (xp message_) fun v10 => xai 0 v9 v10) else (xp (0 : Int32)))
set_option maxRecDepth 100000 in
set_option maxHeartbeats 4000000 in
theorem M_X7_receiver (this : Nat) (message_ : Int32) : MM yX7_receiver cX7_receiver 2 (some .int) 2 43 0 0 encI [.ref this, .int message_] (F_X7_receiver this message_) := by
  refine MM_of (env0 := [(0, va_rf (some this)), (1, .int message_)]) (by decide) (by exact Nat.le_of_ble_eq_true rfl) (by rfl) (fun k mm res X C hR hN hr hname h => ?_)
  have X : CX k cX7_receiver RX7 := X
  have hT : TH k (fun e m' => res = (.error e, m')) := TH_of C
  have htr := C.2.2.2.1
  unfold F_X7_receiver at h
  exact SB_go (T := fun e m' => res = (.error e, m')) (RET := fun v m' => res = (.ok v, m')) (SB_retI X C hr dX7_receiver_24 (XE_tern (CE_1 (XE_4 (pB := pI) wR wI wI (L_aload_n (r := (some this)) 0 X dX7_receiver_0 rfl rfl) (XE_2 (pB := pI) wR (L_aload_n (r := (some this)) 0 X dX7_receiver_1 rfl rfl) (L_iload_n (x := message_) 1 X dX7_receiver_2 rfl rfl) (fun v0 v1 st mm a b hd hc hs h => g_callVo (st := st) (cI := 8) X hT htr rfl (fun q => M_X7_isMessage q v1) lk_X7_isMessage im_X7_isMessage se_X7_isMessage ml_X7_267 rfl (by rw [hR]; exact ⟨Nat.le_of_ble_eq_true rfl, Nat.le_of_ble_eq_true rfl⟩) (Nat.le_trans hd (by decide)) ⟨hc, hs⟩ dX7_receiver_3 h)) (L_iconst (v := 1) X dX7_receiver_6 (by decide)) (L_iconst (v := 1) X dX7_receiver_7 (by decide)) (fun v0 v1 v2 v3 st mm a b hd hc hs h => g_callVo (st := st) (cI := 8) X hT htr rfl (fun q => M_X7_goes q v1 v2 v3) lk_X7_goes im_X7_goes se_X7_goes ml_X7_153 rfl (by rw [hR]; exact ⟨Nat.le_of_ble_eq_true rfl, Nat.le_of_ble_eq_true rfl⟩) (Nat.le_trans hd (by decide)) ⟨hc, hs⟩ dX7_receiver_8 h)) (Z_ne_F X dX7_receiver_11 (by decide))) (XE_2 wR (XE_1 (L_aload_n (r := (some this)) 0 X dX7_receiver_14 rfl rfl) (O_gr (c := 8) (j := 33) X rfl inW7 (by decide) fl_X7_99 rfl dX7_receiver_15)) (L_iload_n (x := message_) 1 X dX7_receiver_18 rfl rfl) (O_ai X dX7_receiver_19)) (S_goto X dX7_receiver_20 (by decide)) (L_iconst (v := 0) X dX7_receiver_23 (by decide)))) h (by rw [hR]; decide) (by rw [hR]; decide)
theorem dX7_letters_0 : decode cX7_letters 0 = .ok (.iconst 0, 1) := by decide +kernel
theorem dX7_letters_1 : decode cX7_letters 1 = .ok (.istore_n 2, 1) := by decide +kernel
theorem dX7_letters_2 : decode cX7_letters 2 = .ok (.lload_n 0, 1) := by decide +kernel
theorem dX7_letters_3 : decode cX7_letters 3 = .ok (.iconst 5, 1) := by decide +kernel
theorem dX7_letters_4 : decode cX7_letters 4 = .ok (.iload_n 2, 1) := by decide +kernel
theorem dX7_letters_5 : decode cX7_letters 5 = .ok (.imul, 1) := by decide +kernel
theorem dX7_letters_6 : decode cX7_letters 6 = .ok (.lshr, 1) := by decide +kernel
theorem dX7_letters_7 : decode cX7_letters 7 = .ok (.lconst 0, 1) := by decide +kernel
theorem dX7_letters_8 : decode cX7_letters 8 = .ok (.lcmp, 1) := by decide +kernel
theorem dX7_letters_9 : decode cX7_letters 9 = .ok (.ifCond .eq 9, 3) := by decide +kernel
theorem dX7_letters_12 : decode cX7_letters 12 = .ok (.iinc 2 1, 3) := by decide +kernel
theorem dX7_letters_15 : decode cX7_letters 15 = .ok (.goto (-13), 3) := by decide +kernel
theorem dX7_letters_18 : decode cX7_letters 18 = .ok (.iload_n 2, 1) := by decide +kernel
theorem dX7_letters_19 : decode cX7_letters 19 = .ok (.ireturn, 1) := by decide +kernel
theorem lk_X7_letters : LK yX7_letters cX7_letters 3 (some .int) 1 := ⟨qW_at 1695 (by decide +kernel) rfl, qW_at 78 (by decide +kernel) rfl, by decide, by decide, by decide +kernel⟩
theorem st_X7_letters : Cond.static yX7_letters ∈ qW := qW_at 1694 (by decide +kernel) rfl
def F_X7_letters (word_ : Int64) : QX Int32 :=
  (xb (xp (0 : Int32)) fun sum_1 =>
  (xb (xl 2000 (fun (s2 : Int32) => (xb (xb (xp word_) fun v5 => xb (xb (xp (5 : Int32)) fun v3 => xb (xp s2) fun v4 => (xp (v3 * v4))) fun v6 => (xp (v5 >>> (v6.toInt64 &&& 63)))) fun v7 => xb (xp (0 : Int64)) fun v8 => xp (decide (¬ v7 = v8)))) (fun (s2 : Int32) =>
  (xp (s2 + 1))) sum_1) fun s9 =>
  (xp s9)))
set_option maxRecDepth 100000 in
set_option maxHeartbeats 4000000 in
theorem M_X7_letters (word_ : Int64) : MM yX7_letters cX7_letters 3 (some .int) 0 0 0 0 encI [.long word_] (F_X7_letters word_) := by
  refine MM_of (env0 := [(0, .long word_)]) (by decide) (by exact Nat.le_of_ble_eq_true rfl) (by rfl) (fun k mm res X C hR hN hr hname h => ?_)
  have X : CX k cX7_letters RX7 := X
  have hT : TH k (fun e m' => res = (.error e, m')) := TH_of C
  have htr := C.2.2.2.1
  unfold F_X7_letters at h
  exact SB_go (T := fun e m' => res = (.error e, m')) (RET := fun v m' => res = (.ok v, m')) (SB_let (L_iconst (v := 0) X dX7_letters_0 (by decide)) (S_istore_n (ev := fun sum_1 => [(2, .int sum_1), (0, .long word_)]) X dX7_letters_1 rfl (by rw [hN]; decide) (fun _ => rfl)) fun sum_1 =>
  (SB_seq (ST_loop (σ := Int32) (upd := (fun (s : Int32) => [(2, .int s), (0, .long word_)])) (s0 := sum_1) (n := 2000) (fun mm a b h => GG_sub [0, 1] rfl h)
  (fun s2 => (CE_2 wL (XE_2 wL (L_lload_n (x := word_) 1 X dX7_letters_2 rfl rfl) (XE_2 wI (L_iconst (v := 5) X dX7_letters_3 (by decide)) (L_iload_n (x := s2) 0 X dX7_letters_4 rfl rfl) (O_imul X dX7_letters_5)) (O_lshr X dX7_letters_6)) (L_lconst (v := 0) X dX7_letters_7 (by decide)) (J_ne_F X dX7_letters_8 dX7_letters_9 (by decide))))
  (fun s2 => (ST_post (ST_pre (env' := [(2, .int (s2 + 1)), (0, .long word_)]) (S_iinc 0 X dX7_letters_12 rfl rfl (by rw [hN]; decide) rfl)
  (ST_done (upd := (fun (s : Int32) => [(2, .int s), (0, .long word_)])) (s := (s2 + 1)) [0, 1] rfl)) fun _ mm a b h => S_goto X dX7_letters_15 (by decide) [] mm a b h))) fun s9 =>
  (SB_retI X C hr dX7_letters_19 (L_iload_n (x := s9) 0 X dX7_letters_18 rfl rfl)))) h (by rw [hR]; decide) (by rw [hR]; decide)
theorem dX7_letter_0 : decode cX7_letter 0 = .ok (.bipush 97, 2) := by decide +kernel
theorem dX7_letter_2 : decode cX7_letter 2 = .ok (.lload_n 0, 1) := by decide +kernel
theorem dX7_letter_3 : decode cX7_letter 3 = .ok (.iconst 5, 1) := by decide +kernel
theorem dX7_letter_4 : decode cX7_letter 4 = .ok (.iload_n 2, 1) := by decide +kernel
theorem dX7_letter_5 : decode cX7_letter 5 = .ok (.imul, 1) := by decide +kernel
theorem dX7_letter_6 : decode cX7_letter 6 = .ok (.lshr, 1) := by decide +kernel
theorem dX7_letter_7 : decode cX7_letter 7 = .ok (.ldc2_w 279, 3) := by decide +kernel
theorem dX7_letter_10 : decode cX7_letter 10 = .ok (.land, 1) := by decide +kernel
theorem dX7_letter_11 : decode cX7_letter 11 = .ok (.l2i, 1) := by decide +kernel
theorem dX7_letter_12 : decode cX7_letter 12 = .ok (.iadd, 1) := by decide +kernel
theorem dX7_letter_13 : decode cX7_letter 13 = .ok (.iconst 1, 1) := by decide +kernel
theorem dX7_letter_14 : decode cX7_letter 14 = .ok (.isub, 1) := by decide +kernel
theorem dX7_letter_15 : decode cX7_letter 15 = .ok (.i2c, 1) := by decide +kernel
theorem dX7_letter_16 : decode cX7_letter 16 = .ok (.ireturn, 1) := by decide +kernel
theorem lk_X7_letter : LK yX7_letter cX7_letter 3 (some .char) 2 := ⟨qW_at 1712 (by decide +kernel) rfl, qW_at 78 (by decide +kernel) rfl, by decide, by decide, by decide +kernel⟩
theorem st_X7_letter : Cond.static yX7_letter ∈ qW := qW_at 1711 (by decide +kernel) rfl
def F_X7_letter (word_ : Int64) (place_ : Int32) : QX Int32 :=
  (xb (xb (xb (xb (xp (97 : Int32)) fun v8 => xb (xb (xb (xb (xp word_) fun v3 => xb (xb (xp (5 : Int32)) fun v1 => xb (xp place_) fun v2 => (xp (v1 * v2))) fun v4 => (xp (v3 >>> (v4.toInt64 &&& 63)))) fun v5 => xb (xp (31 : Int64)) fun v6 => (xp (v5 &&& v6))) fun v7 => xp v7.toInt32) fun v9 => (xp (v8 + v9))) fun v10 => xb (xp (1 : Int32)) fun v11 => (xp (v10 - v11))) fun v12 => xp (v12.toUInt32 % 65536).toInt32) xch)
set_option maxRecDepth 100000 in
set_option maxHeartbeats 4000000 in
theorem M_X7_letter (word_ : Int64) (place_ : Int32) : MM yX7_letter cX7_letter 3 (some .char) 0 0 0 0 encI [.long word_, .int place_] (F_X7_letter word_ place_) := by
  refine MM_of (env0 := [(0, .long word_), (2, .int place_)]) (by decide) (by exact Nat.le_of_ble_eq_true rfl) (by rfl) (fun k mm res X C hR hN hr hname h => ?_)
  have X : CX k cX7_letter RX7 := X
  have hT : TH k (fun e m' => res = (.error e, m')) := TH_of C
  have htr := C.2.2.2.1
  unfold F_X7_letter at h
  exact SB_go (T := fun e m' => res = (.error e, m')) (RET := fun v m' => res = (.ok v, m')) (SB_retC X C hr dX7_letter_16 (XE_1 (XE_2 wI (XE_2 wI (L_bipush (v := (97)) X dX7_letter_0 (by decide)) (XE_1 (XE_2 wL (XE_2 wL (L_lload_n (x := word_) 0 X dX7_letter_2 rfl rfl) (XE_2 wI (L_iconst (v := 5) X dX7_letter_3 (by decide)) (L_iload_n (x := place_) 1 X dX7_letter_4 rfl rfl) (O_imul X dX7_letter_5)) (O_lshr X dX7_letter_6)) (L_ldc2 X dX7_letter_7 kl_X7_279) (O_land X dX7_letter_10)) (O_l2i X dX7_letter_11)) (O_iadd X dX7_letter_12)) (L_iconst (v := 1) X dX7_letter_13 (by decide)) (O_isub X dX7_letter_14)) (O_i2c X dX7_letter_15))) h (by rw [hR]; decide) (by rw [hR]; decide)
theorem dX7_kindWord_0 : decode cX7_kindWord 0 = .ok (.aload_n 0, 1) := by decide +kernel
theorem dX7_kindWord_1 : decode cX7_kindWord 1 = .ok (.getfield 93, 3) := by decide +kernel
theorem dX7_kindWord_4 : decode cX7_kindWord 4 = .ok (.iload_n 1, 1) := by decide +kernel
theorem dX7_kindWord_5 : decode cX7_kindWord 5 = .ok (.iaload, 1) := by decide +kernel
theorem dX7_kindWord_6 : decode cX7_kindWord 6 = .ok (.ifCond .ne 9, 3) := by decide +kernel
theorem dX7_kindWord_9 : decode cX7_kindWord 9 = .ok (.ldc2_w 281, 3) := by decide +kernel
theorem dX7_kindWord_12 : decode cX7_kindWord 12 = .ok (.goto 22, 3) := by decide +kernel
theorem dX7_kindWord_15 : decode cX7_kindWord 15 = .ok (.aload_n 0, 1) := by decide +kernel
theorem dX7_kindWord_16 : decode cX7_kindWord 16 = .ok (.getfield 93, 3) := by decide +kernel
theorem dX7_kindWord_19 : decode cX7_kindWord 19 = .ok (.iload_n 1, 1) := by decide +kernel
theorem dX7_kindWord_20 : decode cX7_kindWord 20 = .ok (.iaload, 1) := by decide +kernel
theorem dX7_kindWord_21 : decode cX7_kindWord 21 = .ok (.iconst 1, 1) := by decide +kernel
theorem dX7_kindWord_22 : decode cX7_kindWord 22 = .ok (.if_icmp .ne 9, 3) := by decide +kernel
theorem dX7_kindWord_25 : decode cX7_kindWord 25 = .ok (.ldc2_w 283, 3) := by decide +kernel
theorem dX7_kindWord_28 : decode cX7_kindWord 28 = .ok (.goto 6, 3) := by decide +kernel
theorem dX7_kindWord_31 : decode cX7_kindWord 31 = .ok (.ldc2_w 285, 3) := by decide +kernel
theorem dX7_kindWord_34 : decode cX7_kindWord 34 = .ok (.lreturn, 1) := by decide +kernel
theorem lk_X7_kindWord : LK yX7_kindWord cX7_kindWord 2 (some .long) 1 := ⟨qW_at 1699 (by decide +kernel) rfl, qW_at 78 (by decide +kernel) rfl, by decide, by decide, by decide +kernel⟩
theorem im_X7_kindWord : Cond.instanceMethod yX7_kindWord ∈ qW := qW_at 1698 (by decide +kernel) rfl
theorem se_X7_kindWord : Cond.selects RX7 yX7_kindWord yX7_kindWord ∈ qW := qW_at 60 (by decide +kernel) rfl
def F_X7_kindWord (this : Nat) (message_ : Int32) : QX Int64 :=
  (xb (xb (xb (xb (xp (some this)) fun v1 => xgr 8 31 v1) fun v2 => xb (xp message_) fun v3 => xai 0 v2 v3) fun v4 => xp (decide (v4 = 0))) fun v11 => if v11 then (xp (22118319282 : Int64)) else (xb (xb (xb (xb (xp (some this)) fun v5 => xgr 8 31 v5) fun v6 => xb (xp message_) fun v7 => xai 0 v6 v7) fun v8 => xb (xp (1 : Int32)) fun v9 => xp (decide (v8 = v9))) fun v10 => if v10 then (xp (26624178 : Int64)) else (xp (414044405328 : Int64))))
set_option maxRecDepth 100000 in
set_option maxHeartbeats 4000000 in
theorem M_X7_kindWord (this : Nat) (message_ : Int32) : MM yX7_kindWord cX7_kindWord 2 (some .long) 0 0 0 0 encL [.ref this, .int message_] (F_X7_kindWord this message_) := by
  refine MM_of (env0 := [(0, va_rf (some this)), (1, .int message_)]) (by decide) (by exact Nat.le_of_ble_eq_true rfl) (by rfl) (fun k mm res X C hR hN hr hname h => ?_)
  have X : CX k cX7_kindWord RX7 := X
  have hT : TH k (fun e m' => res = (.error e, m')) := TH_of C
  have htr := C.2.2.2.1
  unfold F_X7_kindWord at h
  exact SB_go (T := fun e m' => res = (.error e, m')) (RET := fun v m' => res = (.ok v, m')) (SB_retL X C hr dX7_kindWord_34 (XE_tern (CE_1 (XE_2 wR (XE_1 (L_aload_n (r := (some this)) 0 X dX7_kindWord_0 rfl rfl) (O_gr (c := 8) (j := 31) X rfl inW7 (by decide) fl_X7_93 rfl dX7_kindWord_1)) (L_iload_n (x := message_) 1 X dX7_kindWord_4 rfl rfl) (O_ai X dX7_kindWord_5)) (Z_eq_F X dX7_kindWord_6 (by decide))) (L_ldc2 X dX7_kindWord_9 kl_X7_281) (S_goto X dX7_kindWord_12 (by decide)) (XE_tern (CE_2 wI (XE_2 wR (XE_1 (L_aload_n (r := (some this)) 0 X dX7_kindWord_15 rfl rfl) (O_gr (c := 8) (j := 31) X rfl inW7 (by decide) fl_X7_93 rfl dX7_kindWord_16)) (L_iload_n (x := message_) 1 X dX7_kindWord_19 rfl rfl) (O_ai X dX7_kindWord_20)) (L_iconst (v := 1) X dX7_kindWord_21 (by decide)) (C_eq_F X dX7_kindWord_22 (by decide))) (L_ldc2 X dX7_kindWord_25 kl_X7_283) (S_goto X dX7_kindWord_28 (by decide)) (L_ldc2 X dX7_kindWord_31 kl_X7_285)))) h (by rw [hR]; decide) (by rw [hR]; decide)
theorem dX7_answerWord_0 : decode cX7_answerWord 0 = .ok (.aload_n 0, 1) := by decide +kernel
theorem dX7_answerWord_1 : decode cX7_answerWord 1 = .ok (.getfield 93, 3) := by decide +kernel
theorem dX7_answerWord_4 : decode cX7_answerWord 4 = .ok (.iload_n 1, 1) := by decide +kernel
theorem dX7_answerWord_5 : decode cX7_answerWord 5 = .ok (.iaload, 1) := by decide +kernel
theorem dX7_answerWord_6 : decode cX7_answerWord 6 = .ok (.iconst 1, 1) := by decide +kernel
theorem dX7_answerWord_7 : decode cX7_answerWord 7 = .ok (.if_icmp .eq 5, 3) := by decide +kernel
theorem dX7_answerWord_10 : decode cX7_answerWord 10 = .ok (.lconst 0, 1) := by decide +kernel
theorem dX7_answerWord_11 : decode cX7_answerWord 11 = .ok (.lreturn, 1) := by decide +kernel
theorem dX7_answerWord_12 : decode cX7_answerWord 12 = .ok (.aload_n 0, 1) := by decide +kernel
theorem dX7_answerWord_13 : decode cX7_answerWord 13 = .ok (.getfield 114, 3) := by decide +kernel
theorem dX7_answerWord_16 : decode cX7_answerWord 16 = .ok (.iload_n 1, 1) := by decide +kernel
theorem dX7_answerWord_17 : decode cX7_answerWord 17 = .ok (.iaload, 1) := by decide +kernel
theorem dX7_answerWord_18 : decode cX7_answerWord 18 = .ok (.istore_n 2, 1) := by decide +kernel
theorem dX7_answerWord_19 : decode cX7_answerWord 19 = .ok (.iload_n 2, 1) := by decide +kernel
theorem dX7_answerWord_20 : decode cX7_answerWord 20 = .ok (.iconst 1, 1) := by decide +kernel
theorem dX7_answerWord_21 : decode cX7_answerWord 21 = .ok (.if_icmp .ne 9, 3) := by decide +kernel
theorem dX7_answerWord_24 : decode cX7_answerWord 24 = .ok (.ldc2_w 287, 3) := by decide +kernel
theorem dX7_answerWord_27 : decode cX7_answerWord 27 = .ok (.goto 28, 3) := by decide +kernel
theorem dX7_answerWord_30 : decode cX7_answerWord 30 = .ok (.iload_n 2, 1) := by decide +kernel
theorem dX7_answerWord_31 : decode cX7_answerWord 31 = .ok (.iconst 2, 1) := by decide +kernel
theorem dX7_answerWord_32 : decode cX7_answerWord 32 = .ok (.if_icmp .ne 9, 3) := by decide +kernel
theorem dX7_answerWord_35 : decode cX7_answerWord 35 = .ok (.ldc2_w 289, 3) := by decide +kernel
theorem dX7_answerWord_38 : decode cX7_answerWord 38 = .ok (.goto 17, 3) := by decide +kernel
theorem dX7_answerWord_41 : decode cX7_answerWord 41 = .ok (.iload_n 2, 1) := by decide +kernel
theorem dX7_answerWord_42 : decode cX7_answerWord 42 = .ok (.iconst 3, 1) := by decide +kernel
theorem dX7_answerWord_43 : decode cX7_answerWord 43 = .ok (.if_icmp .ne 9, 3) := by decide +kernel
theorem dX7_answerWord_46 : decode cX7_answerWord 46 = .ok (.ldc2_w 291, 3) := by decide +kernel
theorem dX7_answerWord_49 : decode cX7_answerWord 49 = .ok (.goto 6, 3) := by decide +kernel
theorem dX7_answerWord_52 : decode cX7_answerWord 52 = .ok (.ldc2_w 293, 3) := by decide +kernel
theorem dX7_answerWord_55 : decode cX7_answerWord 55 = .ok (.lreturn, 1) := by decide +kernel
theorem lk_X7_answerWord : LK yX7_answerWord cX7_answerWord 3 (some .long) 1 := ⟨qW_at 1688 (by decide +kernel) rfl, qW_at 78 (by decide +kernel) rfl, by decide, by decide, by decide +kernel⟩
theorem im_X7_answerWord : Cond.instanceMethod yX7_answerWord ∈ qW := qW_at 1687 (by decide +kernel) rfl
theorem se_X7_answerWord : Cond.selects RX7 yX7_answerWord yX7_answerWord ∈ qW := qW_at 59 (by decide +kernel) rfl
def F_X7_answerWord (this : Nat) (message_ : Int32) : QX Int64 :=
  (xb (xb (xb (xb (xp (some this)) fun v1 => xgr 8 31 v1) fun v2 => xb (xp message_) fun v3 => xai 0 v2 v3) fun v4 => xb (xp (1 : Int32)) fun v5 => xp (decide (¬ v4 = v5))) fun v19 => if v19 then (xp (0 : Int64)) else
  (xb (xb (xb (xp (some this)) fun v6 => xgr 8 38 v6) fun v7 => xb (xp message_) fun v8 => xai 0 v7 v8) fun what_9 =>
  (xb (xb (xp what_9) fun v10 => xb (xp (1 : Int32)) fun v11 => xp (decide (v10 = v11))) fun v18 => if v18 then (xp (143495695457 : Int64)) else (xb (xb (xp what_9) fun v12 => xb (xp (2 : Int32)) fun v13 => xp (decide (v12 = v13))) fun v17 => if v17 then (xp (6263808866484 : Int64)) else (xb (xb (xp what_9) fun v14 => xb (xp (3 : Int32)) fun v15 => xp (decide (v14 = v15))) fun v16 => if v16 then (xp (143287258276 : Int64)) else (xp (4591361110180 : Int64)))))))
set_option maxRecDepth 100000 in
set_option maxHeartbeats 4000000 in
theorem M_X7_answerWord (this : Nat) (message_ : Int32) : MM yX7_answerWord cX7_answerWord 3 (some .long) 0 0 0 0 encL [.ref this, .int message_] (F_X7_answerWord this message_) := by
  refine MM_of (env0 := [(0, va_rf (some this)), (1, .int message_)]) (by decide) (by exact Nat.le_of_ble_eq_true rfl) (by rfl) (fun k mm res X C hR hN hr hname h => ?_)
  have X : CX k cX7_answerWord RX7 := X
  have hT : TH k (fun e m' => res = (.error e, m')) := TH_of C
  have htr := C.2.2.2.1
  unfold F_X7_answerWord at h
  exact SB_go (T := fun e m' => res = (.error e, m')) (RET := fun v m' => res = (.ok v, m')) (SB_if (CE_2 wI (XE_2 wR (XE_1 (L_aload_n (r := (some this)) 0 X dX7_answerWord_0 rfl rfl) (O_gr (c := 8) (j := 31) X rfl inW7 (by decide) fl_X7_93 rfl dX7_answerWord_1)) (L_iload_n (x := message_) 1 X dX7_answerWord_4 rfl rfl) (O_ai X dX7_answerWord_5)) (L_iconst (v := 1) X dX7_answerWord_6 (by decide)) (C_ne_F X dX7_answerWord_7 (by decide)))
  (SB_retL X C hr dX7_answerWord_11 (L_lconst (v := 0) X dX7_answerWord_10 (by decide)))
  (SB_let (XE_2 wR (XE_1 (L_aload_n (r := (some this)) 0 X dX7_answerWord_12 rfl rfl) (O_gr (c := 8) (j := 38) X rfl inW7 (by decide) fl_X7_114 rfl dX7_answerWord_13)) (L_iload_n (x := message_) 1 X dX7_answerWord_16 rfl rfl) (O_ai X dX7_answerWord_17)) (S_istore_n (ev := fun what_9 => [(2, .int what_9), (0, va_rf (some this)), (1, .int message_)]) X dX7_answerWord_18 rfl (by rw [hN]; decide) (fun _ => rfl)) fun what_9 =>
  (SB_retL X C hr dX7_answerWord_55 (XE_tern (CE_2 wI (L_iload_n (x := what_9) 0 X dX7_answerWord_19 rfl rfl) (L_iconst (v := 1) X dX7_answerWord_20 (by decide)) (C_eq_F X dX7_answerWord_21 (by decide))) (L_ldc2 X dX7_answerWord_24 kl_X7_287) (S_goto X dX7_answerWord_27 (by decide)) (XE_tern (CE_2 wI (L_iload_n (x := what_9) 0 X dX7_answerWord_30 rfl rfl) (L_iconst (v := 2) X dX7_answerWord_31 (by decide)) (C_eq_F X dX7_answerWord_32 (by decide))) (L_ldc2 X dX7_answerWord_35 kl_X7_289) (S_goto X dX7_answerWord_38 (by decide)) (XE_tern (CE_2 wI (L_iload_n (x := what_9) 0 X dX7_answerWord_41 rfl rfl) (L_iconst (v := 3) X dX7_answerWord_42 (by decide)) (C_eq_F X dX7_answerWord_43 (by decide))) (L_ldc2 X dX7_answerWord_46 kl_X7_291) (S_goto X dX7_answerWord_49 (by decide)) (L_ldc2 X dX7_answerWord_52 kl_X7_293))))))) h (by rw [hR]; decide) (by rw [hR]; decide)
theorem dX7_digits_0 : decode cX7_digits 0 = .ok (.iload_n 0, 1) := by decide +kernel
theorem dX7_digits_1 : decode cX7_digits 1 = .ok (.bipush 10, 2) := by decide +kernel
theorem dX7_digits_3 : decode cX7_digits 3 = .ok (.if_icmp .ge 7, 3) := by decide +kernel
theorem dX7_digits_6 : decode cX7_digits 6 = .ok (.iconst 1, 1) := by decide +kernel
theorem dX7_digits_7 : decode cX7_digits 7 = .ok (.goto 14, 3) := by decide +kernel
theorem dX7_digits_10 : decode cX7_digits 10 = .ok (.iload_n 0, 1) := by decide +kernel
theorem dX7_digits_11 : decode cX7_digits 11 = .ok (.bipush 100, 2) := by decide +kernel
theorem dX7_digits_13 : decode cX7_digits 13 = .ok (.if_icmp .ge 7, 3) := by decide +kernel
theorem dX7_digits_16 : decode cX7_digits 16 = .ok (.iconst 2, 1) := by decide +kernel
theorem dX7_digits_17 : decode cX7_digits 17 = .ok (.goto 4, 3) := by decide +kernel
theorem dX7_digits_20 : decode cX7_digits 20 = .ok (.iconst 3, 1) := by decide +kernel
theorem dX7_digits_21 : decode cX7_digits 21 = .ok (.ireturn, 1) := by decide +kernel
theorem lk_X7_digits : LK yX7_digits cX7_digits 1 (some .int) 1 := ⟨qW_at 1705 (by decide +kernel) rfl, qW_at 78 (by decide +kernel) rfl, by decide, by decide, by decide +kernel⟩
theorem st_X7_digits : Cond.static yX7_digits ∈ qW := qW_at 1704 (by decide +kernel) rfl
def F_X7_digits (v_ : Int32) : QX Int32 :=
  (xb (xb (xp v_) fun v1 => xb (xp (10 : Int32)) fun v2 => xp (decide (v1 < v2))) fun v6 => if v6 then (xp (1 : Int32)) else (xb (xb (xp v_) fun v3 => xb (xp (100 : Int32)) fun v4 => xp (decide (v3 < v4))) fun v5 => if v5 then (xp (2 : Int32)) else (xp (3 : Int32))))
set_option maxRecDepth 100000 in
set_option maxHeartbeats 4000000 in
theorem M_X7_digits (v_ : Int32) : MM yX7_digits cX7_digits 1 (some .int) 0 0 0 0 encI [.int v_] (F_X7_digits v_) := by
  refine MM_of (env0 := [(0, .int v_)]) (by decide) (by exact Nat.le_of_ble_eq_true rfl) (by rfl) (fun k mm res X C hR hN hr hname h => ?_)
  have X : CX k cX7_digits RX7 := X
  have hT : TH k (fun e m' => res = (.error e, m')) := TH_of C
  have htr := C.2.2.2.1
  unfold F_X7_digits at h
  exact SB_go (T := fun e m' => res = (.error e, m')) (RET := fun v m' => res = (.ok v, m')) (SB_retI X C hr dX7_digits_21 (XE_tern (CE_2 wI (L_iload_n (x := v_) 0 X dX7_digits_0 rfl rfl) (L_bipush (v := (10)) X dX7_digits_1 (by decide)) (C_lt_F X dX7_digits_3 (by decide))) (L_iconst (v := 1) X dX7_digits_6 (by decide)) (S_goto X dX7_digits_7 (by decide)) (XE_tern (CE_2 wI (L_iload_n (x := v_) 0 X dX7_digits_10 rfl rfl) (L_bipush (v := (100)) X dX7_digits_11 (by decide)) (C_lt_F X dX7_digits_13 (by decide))) (L_iconst (v := 2) X dX7_digits_16 (by decide)) (S_goto X dX7_digits_17 (by decide)) (L_iconst (v := 3) X dX7_digits_20 (by decide))))) h (by rw [hR]; decide) (by rw [hR]; decide)
theorem dX7_lineOf_0 : decode cX7_lineOf 0 = .ok (.aload_n 0, 1) := by decide +kernel
theorem dX7_lineOf_1 : decode cX7_lineOf 1 = .ok (.iload_n 1, 1) := by decide +kernel
theorem dX7_lineOf_2 : decode cX7_lineOf 2 = .ok (.invokevirtual 295, 3) := by decide +kernel
theorem dX7_lineOf_5 : decode cX7_lineOf 5 = .ok (.invokestatic 299, 3) := by decide +kernel
theorem dX7_lineOf_8 : decode cX7_lineOf 8 = .ok (.istore_n 2, 1) := by decide +kernel
theorem dX7_lineOf_9 : decode cX7_lineOf 9 = .ok (.aload_n 0, 1) := by decide +kernel
theorem dX7_lineOf_10 : decode cX7_lineOf 10 = .ok (.iload_n 1, 1) := by decide +kernel
theorem dX7_lineOf_11 : decode cX7_lineOf 11 = .ok (.invokevirtual 303, 3) := by decide +kernel
theorem dX7_lineOf_14 : decode cX7_lineOf 14 = .ok (.invokestatic 299, 3) := by decide +kernel
theorem dX7_lineOf_17 : decode cX7_lineOf 17 = .ok (.bipush 6, 2) := by decide +kernel
theorem dX7_lineOf_19 : decode cX7_lineOf 19 = .ok (.iadd, 1) := by decide +kernel
theorem dX7_lineOf_20 : decode cX7_lineOf 20 = .ok (.aload_n 0, 1) := by decide +kernel
theorem dX7_lineOf_21 : decode cX7_lineOf 21 = .ok (.getfield 108, 3) := by decide +kernel
theorem dX7_lineOf_24 : decode cX7_lineOf 24 = .ok (.iload_n 1, 1) := by decide +kernel
theorem dX7_lineOf_25 : decode cX7_lineOf 25 = .ok (.iaload, 1) := by decide +kernel
theorem dX7_lineOf_26 : decode cX7_lineOf 26 = .ok (.invokestatic 306, 3) := by decide +kernel
theorem dX7_lineOf_29 : decode cX7_lineOf 29 = .ok (.iadd, 1) := by decide +kernel
theorem dX7_lineOf_30 : decode cX7_lineOf 30 = .ok (.iload_n 2, 1) := by decide +kernel
theorem dX7_lineOf_31 : decode cX7_lineOf 31 = .ok (.ifCond .ne 7, 3) := by decide +kernel
theorem dX7_lineOf_34 : decode cX7_lineOf 34 = .ok (.iconst 0, 1) := by decide +kernel
theorem dX7_lineOf_35 : decode cX7_lineOf 35 = .ok (.goto 6, 3) := by decide +kernel
theorem dX7_lineOf_38 : decode cX7_lineOf 38 = .ok (.iconst 1, 1) := by decide +kernel
theorem dX7_lineOf_39 : decode cX7_lineOf 39 = .ok (.iload_n 2, 1) := by decide +kernel
theorem dX7_lineOf_40 : decode cX7_lineOf 40 = .ok (.iadd, 1) := by decide +kernel
theorem dX7_lineOf_41 : decode cX7_lineOf 41 = .ok (.iadd, 1) := by decide +kernel
theorem dX7_lineOf_42 : decode cX7_lineOf 42 = .ok (.ireturn, 1) := by decide +kernel
theorem lk_X7_lineOf : LK yX7_lineOf cX7_lineOf 3 (some .int) 1 := ⟨qW_at 1684 (by decide +kernel) rfl, qW_at 78 (by decide +kernel) rfl, by decide, by decide, by decide +kernel⟩
theorem im_X7_lineOf : Cond.instanceMethod yX7_lineOf ∈ qW := qW_at 1683 (by decide +kernel) rfl
theorem se_X7_lineOf : Cond.selects RX7 yX7_lineOf yX7_lineOf ∈ qW := qW_at 58 (by decide +kernel) rfl
def F_X7_lineOf (this : Nat) (message_ : Int32) : QX Int32 :=
  (xb (xb (xb (xp (some this)) fun v1 => xb (xp message_) fun v2 => xo 8 v1 fun q => F_X7_answerWord q v2) fun v3 => F_X7_letters v3) fun answers_4 =>
  (xb (xb (xb (xb (xb (xp (some this)) fun v5 => xb (xp message_) fun v6 => xo 8 v5 fun q => F_X7_kindWord q v6) fun v7 => F_X7_letters v7) fun v8 => xb (xp (6 : Int32)) fun v9 => (xp (v8 + v9))) fun v14 => xb (xb (xb (xb (xp (some this)) fun v10 => xgr 8 36 v10) fun v11 => xb (xp message_) fun v12 => xai 0 v11 v12) fun v13 => F_X7_digits v13) fun v15 => (xp (v14 + v15))) fun v20 => xb (xb (xb (xp answers_4) fun v16 => xp (decide (v16 = 0))) fun v19 => if v19 then (xp (0 : Int32)) else (xb (xp (1 : Int32)) fun v17 => xb (xp answers_4) fun v18 => (xp (v17 + v18)))) fun v21 => (xp (v20 + v21))))
set_option maxRecDepth 100000 in
set_option maxHeartbeats 4000000 in
theorem M_X7_lineOf (this : Nat) (message_ : Int32) : MM yX7_lineOf cX7_lineOf 3 (some .int) 1 22 0 0 encI [.ref this, .int message_] (F_X7_lineOf this message_) := by
  refine MM_of (env0 := [(0, va_rf (some this)), (1, .int message_)]) (by decide) (by exact Nat.le_of_ble_eq_true rfl) (by rfl) (fun k mm res X C hR hN hr hname h => ?_)
  have X : CX k cX7_lineOf RX7 := X
  have hT : TH k (fun e m' => res = (.error e, m')) := TH_of C
  have htr := C.2.2.2.1
  unfold F_X7_lineOf at h
  exact SB_go (T := fun e m' => res = (.error e, m')) (RET := fun v m' => res = (.ok v, m')) (SB_let (XE_1 (pB := pI)  (XE_2 (pB := pL) wR (L_aload_n (r := (some this)) 0 X dX7_lineOf_0 rfl rfl) (L_iload_n (x := message_) 1 X dX7_lineOf_1 rfl rfl) (fun v0 v1 st mm a b hd hc hs h => g_callVo (st := st) (cI := 8) X hT htr rfl (fun q => M_X7_answerWord q v1) lk_X7_answerWord im_X7_answerWord se_X7_answerWord ml_X7_295 rfl (by rw [hR]; exact ⟨Nat.le_of_ble_eq_true rfl, Nat.le_of_ble_eq_true rfl⟩) (Nat.le_trans hd (by decide)) ⟨hc, hs⟩ dX7_lineOf_2 h)) (fun v0 st mm a b hd hc hs h => g_callS (st := st) X hT htr (M_X7_letters v0) lk_X7_letters st_X7_letters ml_X7_299 rfl (by rw [hR]; exact ⟨Nat.le_of_ble_eq_true rfl, Nat.le_of_ble_eq_true rfl⟩) (Nat.le_trans hd (by decide)) ⟨hc, hs⟩ dX7_lineOf_5 h)) (S_istore_n (ev := fun answers_4 => [(2, .int answers_4), (0, va_rf (some this)), (1, .int message_)]) X dX7_lineOf_8 rfl (by rw [hN]; decide) (fun _ => rfl)) fun answers_4 =>
  (SB_retI X C hr dX7_lineOf_42 (XE_2 wI (XE_2 wI (XE_2 wI (XE_1 (pB := pI)  (XE_2 (pB := pL) wR (L_aload_n (r := (some this)) 1 X dX7_lineOf_9 rfl rfl) (L_iload_n (x := message_) 2 X dX7_lineOf_10 rfl rfl) (fun v0 v1 st mm a b hd hc hs h => g_callVo (st := st) (cI := 8) X hT htr rfl (fun q => M_X7_kindWord q v1) lk_X7_kindWord im_X7_kindWord se_X7_kindWord ml_X7_303 rfl (by rw [hR]; exact ⟨Nat.le_of_ble_eq_true rfl, Nat.le_of_ble_eq_true rfl⟩) (Nat.le_trans hd (by decide)) ⟨hc, hs⟩ dX7_lineOf_11 h)) (fun v0 st mm a b hd hc hs h => g_callS (st := st) X hT htr (M_X7_letters v0) lk_X7_letters st_X7_letters ml_X7_299 rfl (by rw [hR]; exact ⟨Nat.le_of_ble_eq_true rfl, Nat.le_of_ble_eq_true rfl⟩) (Nat.le_trans hd (by decide)) ⟨hc, hs⟩ dX7_lineOf_14 h)) (L_bipush (v := (6)) X dX7_lineOf_17 (by decide)) (O_iadd X dX7_lineOf_19)) (XE_1 (pB := pI)  (XE_2 wR (XE_1 (L_aload_n (r := (some this)) 1 X dX7_lineOf_20 rfl rfl) (O_gr (c := 8) (j := 36) X rfl inW7 (by decide) fl_X7_108 rfl dX7_lineOf_21)) (L_iload_n (x := message_) 2 X dX7_lineOf_24 rfl rfl) (O_ai X dX7_lineOf_25)) (fun v0 st mm a b hd hc hs h => g_callS (st := st) X hT htr (M_X7_digits v0) lk_X7_digits st_X7_digits ml_X7_306 rfl (by rw [hR]; exact ⟨Nat.le_of_ble_eq_true rfl, Nat.le_of_ble_eq_true rfl⟩) (Nat.le_trans hd (by decide)) ⟨hc, hs⟩ dX7_lineOf_26 h)) (O_iadd X dX7_lineOf_29)) (XE_tern (CE_1 (L_iload_n (x := answers_4) 0 X dX7_lineOf_30 rfl rfl) (Z_eq_F X dX7_lineOf_31 (by decide))) (L_iconst (v := 0) X dX7_lineOf_34 (by decide)) (S_goto X dX7_lineOf_35 (by decide)) (XE_2 wI (L_iconst (v := 1) X dX7_lineOf_38 (by decide)) (L_iload_n (x := answers_4) 0 X dX7_lineOf_39 rfl rfl) (O_iadd X dX7_lineOf_40))) (O_iadd X dX7_lineOf_41)))) h (by rw [hR]; decide) (by rw [hR]; decide)
theorem dX7_lineLength_0 : decode cX7_lineLength 0 = .ok (.aload_n 0, 1) := by decide +kernel
theorem dX7_lineLength_1 : decode cX7_lineLength 1 = .ok (.aload_n 0, 1) := by decide +kernel
theorem dX7_lineLength_2 : decode cX7_lineLength 2 = .ok (.iload_n 1, 1) := by decide +kernel
theorem dX7_lineLength_3 : decode cX7_lineLength 3 = .ok (.invokevirtual 267, 3) := by decide +kernel
theorem dX7_lineLength_6 : decode cX7_lineLength 6 = .ok (.iconst 1, 1) := by decide +kernel
theorem dX7_lineLength_7 : decode cX7_lineLength 7 = .ok (.iconst 1, 1) := by decide +kernel
theorem dX7_lineLength_8 : decode cX7_lineLength 8 = .ok (.invokevirtual 153, 3) := by decide +kernel
theorem dX7_lineLength_11 : decode cX7_lineLength 11 = .ok (.ifCond .eq 11, 3) := by decide +kernel
theorem dX7_lineLength_14 : decode cX7_lineLength 14 = .ok (.aload_n 0, 1) := by decide +kernel
theorem dX7_lineLength_15 : decode cX7_lineLength 15 = .ok (.iload_n 1, 1) := by decide +kernel
theorem dX7_lineLength_16 : decode cX7_lineLength 16 = .ok (.invokevirtual 309, 3) := by decide +kernel
theorem dX7_lineLength_19 : decode cX7_lineLength 19 = .ok (.goto 4, 3) := by decide +kernel
theorem dX7_lineLength_22 : decode cX7_lineLength 22 = .ok (.iconst 0, 1) := by decide +kernel
theorem dX7_lineLength_23 : decode cX7_lineLength 23 = .ok (.ireturn, 1) := by decide +kernel
theorem lk_X7_lineLength : LK yX7_lineLength cX7_lineLength 2 (some .int) 1 := ⟨qW_at 1680 (by decide +kernel) rfl, qW_at 78 (by decide +kernel) rfl, by decide, by decide, by decide +kernel⟩
theorem im_X7_lineLength : Cond.instanceMethod yX7_lineLength ∈ qW := qW_at 1678 (by decide +kernel) rfl
theorem se_X7_lineLength : Cond.selects RX7 yX7_lineLength yX7_lineLength ∈ qW := qW_at 1679 (by decide +kernel) rfl
def F_X7_lineLength (this : Nat) (message_ : Int32) : QX Int32 :=
  (xb (xb (xb (xp (some this)) fun v3 => xb (xb (xp (some this)) fun v1 => xb (xp message_) fun v2 => xo 8 v1 fun q => F_X7_isMessage q v2) fun v4 => xb (xp (1 : Int32)) fun v5 => xb (xp (1 : Int32)) fun v6 => xo 8 v3 fun q => F_X7_goes q v4 v5 v6) fun v7 => xp (decide (¬ v7 = 0))) fun v10 => if v10 then (xb (xp (some this)) fun v8 => xb (xp message_) fun v9 => xo 8 v8 fun q => F_X7_lineOf q v9) else (xp (0 : Int32)))
set_option maxRecDepth 100000 in
set_option maxHeartbeats 4000000 in
theorem M_X7_lineLength (this : Nat) (message_ : Int32) : MM yX7_lineLength cX7_lineLength 2 (some .int) 2 44 0 0 encI [.ref this, .int message_] (F_X7_lineLength this message_) := by
  refine MM_of (env0 := [(0, va_rf (some this)), (1, .int message_)]) (by decide) (by exact Nat.le_of_ble_eq_true rfl) (by rfl) (fun k mm res X C hR hN hr hname h => ?_)
  have X : CX k cX7_lineLength RX7 := X
  have hT : TH k (fun e m' => res = (.error e, m')) := TH_of C
  have htr := C.2.2.2.1
  unfold F_X7_lineLength at h
  exact SB_go (T := fun e m' => res = (.error e, m')) (RET := fun v m' => res = (.ok v, m')) (SB_retI X C hr dX7_lineLength_23 (XE_tern (CE_1 (XE_4 (pB := pI) wR wI wI (L_aload_n (r := (some this)) 0 X dX7_lineLength_0 rfl rfl) (XE_2 (pB := pI) wR (L_aload_n (r := (some this)) 0 X dX7_lineLength_1 rfl rfl) (L_iload_n (x := message_) 1 X dX7_lineLength_2 rfl rfl) (fun v0 v1 st mm a b hd hc hs h => g_callVo (st := st) (cI := 8) X hT htr rfl (fun q => M_X7_isMessage q v1) lk_X7_isMessage im_X7_isMessage se_X7_isMessage ml_X7_267 rfl (by rw [hR]; exact ⟨Nat.le_of_ble_eq_true rfl, Nat.le_of_ble_eq_true rfl⟩) (Nat.le_trans hd (by decide)) ⟨hc, hs⟩ dX7_lineLength_3 h)) (L_iconst (v := 1) X dX7_lineLength_6 (by decide)) (L_iconst (v := 1) X dX7_lineLength_7 (by decide)) (fun v0 v1 v2 v3 st mm a b hd hc hs h => g_callVo (st := st) (cI := 8) X hT htr rfl (fun q => M_X7_goes q v1 v2 v3) lk_X7_goes im_X7_goes se_X7_goes ml_X7_153 rfl (by rw [hR]; exact ⟨Nat.le_of_ble_eq_true rfl, Nat.le_of_ble_eq_true rfl⟩) (Nat.le_trans hd (by decide)) ⟨hc, hs⟩ dX7_lineLength_8 h)) (Z_ne_F X dX7_lineLength_11 (by decide))) (XE_2 (pB := pI) wR (L_aload_n (r := (some this)) 0 X dX7_lineLength_14 rfl rfl) (L_iload_n (x := message_) 1 X dX7_lineLength_15 rfl rfl) (fun v0 v1 st mm a b hd hc hs h => g_callVo (st := st) (cI := 8) X hT htr rfl (fun q => M_X7_lineOf q v1) lk_X7_lineOf im_X7_lineOf se_X7_lineOf ml_X7_309 rfl (by rw [hR]; exact ⟨Nat.le_of_ble_eq_true rfl, Nat.le_of_ble_eq_true rfl⟩) (Nat.le_trans hd (by decide)) ⟨hc, hs⟩ dX7_lineLength_16 h)) (S_goto X dX7_lineLength_19 (by decide)) (L_iconst (v := 0) X dX7_lineLength_22 (by decide)))) h (by rw [hR]; decide) (by rw [hR]; decide)
theorem dX7_signAt_0 : decode cX7_signAt 0 = .ok (.aload_n 0, 1) := by decide +kernel
theorem dX7_signAt_1 : decode cX7_signAt 1 = .ok (.getfield 108, 3) := by decide +kernel
theorem dX7_signAt_4 : decode cX7_signAt 4 = .ok (.iload_n 1, 1) := by decide +kernel
theorem dX7_signAt_5 : decode cX7_signAt 5 = .ok (.iaload, 1) := by decide +kernel
theorem dX7_signAt_6 : decode cX7_signAt 6 = .ok (.invokestatic 306, 3) := by decide +kernel
theorem dX7_signAt_9 : decode cX7_signAt 9 = .ok (.istore_n 3, 1) := by decide +kernel
theorem dX7_signAt_10 : decode cX7_signAt 10 = .ok (.iload_n 2, 1) := by decide +kernel
theorem dX7_signAt_11 : decode cX7_signAt 11 = .ok (.iconst 1, 1) := by decide +kernel
theorem dX7_signAt_12 : decode cX7_signAt 12 = .ok (.if_icmp .eq 8, 3) := by decide +kernel
theorem dX7_signAt_15 : decode cX7_signAt 15 = .ok (.iload_n 2, 1) := by decide +kernel
theorem dX7_signAt_16 : decode cX7_signAt 16 = .ok (.iconst 2, 1) := by decide +kernel
theorem dX7_signAt_17 : decode cX7_signAt 17 = .ok (.if_icmp .ne 28, 3) := by decide +kernel
theorem dX7_signAt_20 : decode cX7_signAt 20 = .ok (.bipush 97, 2) := by decide +kernel
theorem dX7_signAt_22 : decode cX7_signAt 22 = .ok (.iload_n 2, 1) := by decide +kernel
theorem dX7_signAt_23 : decode cX7_signAt 23 = .ok (.iconst 1, 1) := by decide +kernel
theorem dX7_signAt_24 : decode cX7_signAt 24 = .ok (.if_icmp .ne 12, 3) := by decide +kernel
theorem dX7_signAt_27 : decode cX7_signAt 27 = .ok (.aload_n 0, 1) := by decide +kernel
theorem dX7_signAt_28 : decode cX7_signAt 28 = .ok (.getfield 96, 3) := by decide +kernel
theorem dX7_signAt_31 : decode cX7_signAt 31 = .ok (.iload_n 1, 1) := by decide +kernel
theorem dX7_signAt_32 : decode cX7_signAt 32 = .ok (.iaload, 1) := by decide +kernel
theorem dX7_signAt_33 : decode cX7_signAt 33 = .ok (.goto 9, 3) := by decide +kernel
theorem dX7_signAt_36 : decode cX7_signAt 36 = .ok (.aload_n 0, 1) := by decide +kernel
theorem dX7_signAt_37 : decode cX7_signAt 37 = .ok (.getfield 99, 3) := by decide +kernel
theorem dX7_signAt_40 : decode cX7_signAt 40 = .ok (.iload_n 1, 1) := by decide +kernel
theorem dX7_signAt_41 : decode cX7_signAt 41 = .ok (.iaload, 1) := by decide +kernel
theorem dX7_signAt_42 : decode cX7_signAt 42 = .ok (.iadd, 1) := by decide +kernel
theorem dX7_signAt_43 : decode cX7_signAt 43 = .ok (.i2c, 1) := by decide +kernel
theorem dX7_signAt_44 : decode cX7_signAt 44 = .ok (.ireturn, 1) := by decide +kernel
theorem dX7_signAt_45 : decode cX7_signAt 45 = .ok (.iload_n 2, 1) := by decide +kernel
theorem dX7_signAt_46 : decode cX7_signAt 46 = .ok (.iconst 4, 1) := by decide +kernel
theorem dX7_signAt_47 : decode cX7_signAt 47 = .ok (.if_icmp .ne 14, 3) := by decide +kernel
theorem dX7_signAt_50 : decode cX7_signAt 50 = .ok (.bipush 48, 2) := by decide +kernel
theorem dX7_signAt_52 : decode cX7_signAt 52 = .ok (.aload_n 0, 1) := by decide +kernel
theorem dX7_signAt_53 : decode cX7_signAt 53 = .ok (.getfield 102, 3) := by decide +kernel
theorem dX7_signAt_56 : decode cX7_signAt 56 = .ok (.iload_n 1, 1) := by decide +kernel
theorem dX7_signAt_57 : decode cX7_signAt 57 = .ok (.iaload, 1) := by decide +kernel
theorem dX7_signAt_58 : decode cX7_signAt 58 = .ok (.iadd, 1) := by decide +kernel
theorem dX7_signAt_59 : decode cX7_signAt 59 = .ok (.i2c, 1) := by decide +kernel
theorem dX7_signAt_60 : decode cX7_signAt 60 = .ok (.ireturn, 1) := by decide +kernel
theorem dX7_signAt_61 : decode cX7_signAt 61 = .ok (.iload_n 2, 1) := by decide +kernel
theorem dX7_signAt_62 : decode cX7_signAt 62 = .ok (.iconst 5, 1) := by decide +kernel
theorem dX7_signAt_63 : decode cX7_signAt 63 = .ok (.if_icmp .le 71, 3) := by decide +kernel
theorem dX7_signAt_66 : decode cX7_signAt 66 = .ok (.iload_n 2, 1) := by decide +kernel
theorem dX7_signAt_67 : decode cX7_signAt 67 = .ok (.bipush 6, 2) := by decide +kernel
theorem dX7_signAt_69 : decode cX7_signAt 69 = .ok (.iload_n 3, 1) := by decide +kernel
theorem dX7_signAt_70 : decode cX7_signAt 70 = .ok (.iadd, 1) := by decide +kernel
theorem dX7_signAt_71 : decode cX7_signAt 71 = .ok (.if_icmp .ge 63, 3) := by decide +kernel
theorem dX7_signAt_74 : decode cX7_signAt 74 = .ok (.iconst 5, 1) := by decide +kernel
theorem dX7_signAt_75 : decode cX7_signAt 75 = .ok (.iload_n 3, 1) := by decide +kernel
theorem dX7_signAt_76 : decode cX7_signAt 76 = .ok (.iadd, 1) := by decide +kernel
theorem dX7_signAt_77 : decode cX7_signAt 77 = .ok (.iload_n 2, 1) := by decide +kernel
theorem dX7_signAt_78 : decode cX7_signAt 78 = .ok (.isub, 1) := by decide +kernel
theorem dX7_signAt_79 : decode cX7_signAt 79 = .ok (.istore 4, 2) := by decide +kernel
theorem dX7_signAt_81 : decode cX7_signAt 81 = .ok (.iload 4, 2) := by decide +kernel
theorem dX7_signAt_83 : decode cX7_signAt 83 = .ok (.ifCond .ne 12, 3) := by decide +kernel
theorem dX7_signAt_86 : decode cX7_signAt 86 = .ok (.aload_n 0, 1) := by decide +kernel
theorem dX7_signAt_87 : decode cX7_signAt 87 = .ok (.getfield 108, 3) := by decide +kernel
theorem dX7_signAt_90 : decode cX7_signAt 90 = .ok (.iload_n 1, 1) := by decide +kernel
theorem dX7_signAt_91 : decode cX7_signAt 91 = .ok (.iaload, 1) := by decide +kernel
theorem dX7_signAt_92 : decode cX7_signAt 92 = .ok (.goto 30, 3) := by decide +kernel
theorem dX7_signAt_95 : decode cX7_signAt 95 = .ok (.iload 4, 2) := by decide +kernel
theorem dX7_signAt_97 : decode cX7_signAt 97 = .ok (.iconst 1, 1) := by decide +kernel
theorem dX7_signAt_98 : decode cX7_signAt 98 = .ok (.if_icmp .ne 15, 3) := by decide +kernel
theorem dX7_signAt_101 : decode cX7_signAt 101 = .ok (.aload_n 0, 1) := by decide +kernel
theorem dX7_signAt_102 : decode cX7_signAt 102 = .ok (.getfield 108, 3) := by decide +kernel
theorem dX7_signAt_105 : decode cX7_signAt 105 = .ok (.iload_n 1, 1) := by decide +kernel
theorem dX7_signAt_106 : decode cX7_signAt 106 = .ok (.iaload, 1) := by decide +kernel
theorem dX7_signAt_107 : decode cX7_signAt 107 = .ok (.bipush 10, 2) := by decide +kernel
theorem dX7_signAt_109 : decode cX7_signAt 109 = .ok (.idiv, 1) := by decide +kernel
theorem dX7_signAt_110 : decode cX7_signAt 110 = .ok (.goto 12, 3) := by decide +kernel
theorem dX7_signAt_113 : decode cX7_signAt 113 = .ok (.aload_n 0, 1) := by decide +kernel
theorem dX7_signAt_114 : decode cX7_signAt 114 = .ok (.getfield 108, 3) := by decide +kernel
theorem dX7_signAt_117 : decode cX7_signAt 117 = .ok (.iload_n 1, 1) := by decide +kernel
theorem dX7_signAt_118 : decode cX7_signAt 118 = .ok (.iaload, 1) := by decide +kernel
theorem dX7_signAt_119 : decode cX7_signAt 119 = .ok (.bipush 100, 2) := by decide +kernel
theorem dX7_signAt_121 : decode cX7_signAt 121 = .ok (.idiv, 1) := by decide +kernel
theorem dX7_signAt_122 : decode cX7_signAt 122 = .ok (.istore 5, 2) := by decide +kernel
theorem dX7_signAt_124 : decode cX7_signAt 124 = .ok (.bipush 48, 2) := by decide +kernel
theorem dX7_signAt_126 : decode cX7_signAt 126 = .ok (.iload 5, 2) := by decide +kernel
theorem dX7_signAt_128 : decode cX7_signAt 128 = .ok (.bipush 10, 2) := by decide +kernel
theorem dX7_signAt_130 : decode cX7_signAt 130 = .ok (.irem, 1) := by decide +kernel
theorem dX7_signAt_131 : decode cX7_signAt 131 = .ok (.iadd, 1) := by decide +kernel
theorem dX7_signAt_132 : decode cX7_signAt 132 = .ok (.i2c, 1) := by decide +kernel
theorem dX7_signAt_133 : decode cX7_signAt 133 = .ok (.ireturn, 1) := by decide +kernel
theorem dX7_signAt_134 : decode cX7_signAt 134 = .ok (.iload_n 2, 1) := by decide +kernel
theorem dX7_signAt_135 : decode cX7_signAt 135 = .ok (.bipush 6, 2) := by decide +kernel
theorem dX7_signAt_137 : decode cX7_signAt 137 = .ok (.iload_n 3, 1) := by decide +kernel
theorem dX7_signAt_138 : decode cX7_signAt 138 = .ok (.iadd, 1) := by decide +kernel
theorem dX7_signAt_139 : decode cX7_signAt 139 = .ok (.if_icmp .le 20, 3) := by decide +kernel
theorem dX7_signAt_142 : decode cX7_signAt 142 = .ok (.aload_n 0, 1) := by decide +kernel
theorem dX7_signAt_143 : decode cX7_signAt 143 = .ok (.iload_n 1, 1) := by decide +kernel
theorem dX7_signAt_144 : decode cX7_signAt 144 = .ok (.invokevirtual 295, 3) := by decide +kernel
theorem dX7_signAt_147 : decode cX7_signAt 147 = .ok (.iload_n 2, 1) := by decide +kernel
theorem dX7_signAt_148 : decode cX7_signAt 148 = .ok (.bipush 7, 2) := by decide +kernel
theorem dX7_signAt_150 : decode cX7_signAt 150 = .ok (.isub, 1) := by decide +kernel
theorem dX7_signAt_151 : decode cX7_signAt 151 = .ok (.iload_n 3, 1) := by decide +kernel
theorem dX7_signAt_152 : decode cX7_signAt 152 = .ok (.isub, 1) := by decide +kernel
theorem dX7_signAt_153 : decode cX7_signAt 153 = .ok (.invokestatic 312, 3) := by decide +kernel
theorem dX7_signAt_156 : decode cX7_signAt 156 = .ok (.goto 5, 3) := by decide +kernel
theorem dX7_signAt_159 : decode cX7_signAt 159 = .ok (.bipush 32, 2) := by decide +kernel
theorem dX7_signAt_161 : decode cX7_signAt 161 = .ok (.ireturn, 1) := by decide +kernel
theorem lk_X7_signAt : LK yX7_signAt cX7_signAt 6 (some .char) 2 := ⟨qW_at 1717 (by decide +kernel) rfl, qW_at 78 (by decide +kernel) rfl, by decide, by decide, by decide +kernel⟩
theorem im_X7_signAt : Cond.instanceMethod yX7_signAt ∈ qW := qW_at 1716 (by decide +kernel) rfl
theorem se_X7_signAt : Cond.selects RX7 yX7_signAt yX7_signAt ∈ qW := qW_at 61 (by decide +kernel) rfl
def F_X7_signAt (this : Nat) (message_ : Int32) (place_ : Int32) : QX Int32 :=
  (xb (xb (xb (xb (xp (some this)) fun v1 => xgr 8 36 v1) fun v2 => xb (xp message_) fun v3 => xai 0 v2 v3) fun v4 => F_X7_digits v4) fun many_5 =>
  (xb (xb (xb (xp place_) fun v6 => xb (xp (1 : Int32)) fun v7 => xp (decide (v6 = v7))) fun v10 => if v10 then xp true else (xb (xp place_) fun v8 => xb (xp (2 : Int32)) fun v9 => xp (decide (v8 = v9)))) fun v82 => if v82 then (xb (xb (xb (xp (97 : Int32)) fun v20 => xb (xb (xb (xp place_) fun v11 => xb (xp (1 : Int32)) fun v12 => xp (decide (v11 = v12))) fun v19 => if v19 then (xb (xb (xp (some this)) fun v13 => xgr 8 32 v13) fun v14 => xb (xp message_) fun v15 => xai 0 v14 v15) else (xb (xb (xp (some this)) fun v16 => xgr 8 33 v16) fun v17 => xb (xp message_) fun v18 => xai 0 v17 v18)) fun v21 => (xp (v20 + v21))) fun v22 => xp (v22.toUInt32 % 65536).toInt32) xch) else
  (xb (xb (xp place_) fun v23 => xb (xp (4 : Int32)) fun v24 => xp (decide (v23 = v24))) fun v81 => if v81 then (xb (xb (xb (xp (48 : Int32)) fun v28 => xb (xb (xb (xp (some this)) fun v25 => xgr 8 34 v25) fun v26 => xb (xp message_) fun v27 => xai 0 v26 v27) fun v29 => (xp (v28 + v29))) fun v30 => xp (v30.toUInt32 % 65536).toInt32) xch) else
  (xb (xb (xb (xp place_) fun v31 => xb (xp (5 : Int32)) fun v32 => xp (decide (v32 < v31))) fun v37 => if v37 then (xb (xp place_) fun v33 => xb (xb (xp (6 : Int32)) fun v34 => xb (xp many_5) fun v35 => (xp (v34 + v35))) fun v36 => xp (decide (v33 < v36))) else xp false) fun v80 => if v80 then (xb (xb (xb (xp (5 : Int32)) fun v38 => xb (xp many_5) fun v39 => (xp (v38 + v39))) fun v40 => xb (xp place_) fun v41 => (xp (v40 - v41))) fun left_42 =>
  (xb (xb (xb (xp left_42) fun v43 => xp (decide (v43 = 0))) fun v60 => if v60 then (xb (xb (xp (some this)) fun v44 => xgr 8 36 v44) fun v45 => xb (xp message_) fun v46 => xai 0 v45 v46) else (xb (xb (xp left_42) fun v47 => xb (xp (1 : Int32)) fun v48 => xp (decide (v47 = v48))) fun v59 => if v59 then (xb (xb (xb (xp (some this)) fun v49 => xgr 8 36 v49) fun v50 => xb (xp message_) fun v51 => xai 0 v50 v51) fun v52 => xb (xp (10 : Int32)) fun v53 => (xdiv v52 v53)) else (xb (xb (xb (xp (some this)) fun v54 => xgr 8 36 v54) fun v55 => xb (xp message_) fun v56 => xai 0 v55 v56) fun v57 => xb (xp (100 : Int32)) fun v58 => (xdiv v57 v58)))) fun part_61 =>
  (xb (xb (xb (xp (48 : Int32)) fun v64 => xb (xb (xp part_61) fun v62 => xb (xp (10 : Int32)) fun v63 => (xrem v62 v63)) fun v65 => (xp (v64 + v65))) fun v66 => xp (v66.toUInt32 % 65536).toInt32) xch))) else
  (xb (xb (xb (xp place_) fun v67 => xb (xb (xp (6 : Int32)) fun v68 => xb (xp many_5) fun v69 => (xp (v68 + v69))) fun v70 => xp (decide (v70 < v67))) fun v79 => if v79 then (xb (xb (xp (some this)) fun v71 => xb (xp message_) fun v72 => xo 8 v71 fun q => F_X7_answerWord q v72) fun v77 => xb (xb (xb (xp place_) fun v73 => xb (xp (7 : Int32)) fun v74 => (xp (v73 - v74))) fun v75 => xb (xp many_5) fun v76 => (xp (v75 - v76))) fun v78 => F_X7_letter v77 v78) else (xp (32 : Int32))) xch)))))
set_option maxRecDepth 100000 in
set_option maxHeartbeats 4000000 in
theorem M_X7_signAt (this : Nat) (message_ : Int32) (place_ : Int32) : MM yX7_signAt cX7_signAt 6 (some .char) 1 22 0 0 encI [.ref this, .int message_, .int place_] (F_X7_signAt this message_ place_) := by
  refine MM_of (env0 := [(0, va_rf (some this)), (1, .int message_), (2, .int place_)]) (by decide) (by exact Nat.le_of_ble_eq_true rfl) (by rfl) (fun k mm res X C hR hN hr hname h => ?_)
  have X : CX k cX7_signAt RX7 := X
  have hT : TH k (fun e m' => res = (.error e, m')) := TH_of C
  have htr := C.2.2.2.1
  unfold F_X7_signAt at h
  exact SB_go (T := fun e m' => res = (.error e, m')) (RET := fun v m' => res = (.ok v, m')) (SB_let (XE_1 (pB := pI)  (XE_2 wR (XE_1 (L_aload_n (r := (some this)) 0 X dX7_signAt_0 rfl rfl) (O_gr (c := 8) (j := 36) X rfl inW7 (by decide) fl_X7_108 rfl dX7_signAt_1)) (L_iload_n (x := message_) 1 X dX7_signAt_4 rfl rfl) (O_ai X dX7_signAt_5)) (fun v0 st mm a b hd hc hs h => g_callS (st := st) X hT htr (M_X7_digits v0) lk_X7_digits st_X7_digits ml_X7_306 rfl (by rw [hR]; exact ⟨Nat.le_of_ble_eq_true rfl, Nat.le_of_ble_eq_true rfl⟩) (Nat.le_trans hd (by decide)) ⟨hc, hs⟩ dX7_signAt_6 h)) (S_istore_n (ev := fun many_5 => [(3, .int many_5), (0, va_rf (some this)), (1, .int message_), (2, .int place_)]) X dX7_signAt_9 rfl (by rw [hN]; decide) (fun _ => rfl)) fun many_5 =>
  (SB_if (CE_or (CE_2 wI (L_iload_n (x := place_) 3 X dX7_signAt_10 rfl rfl) (L_iconst (v := 1) X dX7_signAt_11 (by decide)) (C_eq_T X dX7_signAt_12 (by decide))) (CE_2 wI (L_iload_n (x := place_) 3 X dX7_signAt_15 rfl rfl) (L_iconst (v := 2) X dX7_signAt_16 (by decide)) (C_eq_F X dX7_signAt_17 (by decide))))
  (SB_retC X C hr dX7_signAt_44 (XE_1 (XE_2 wI (L_bipush (v := (97)) X dX7_signAt_20 (by decide)) (XE_tern (CE_2 wI (L_iload_n (x := place_) 3 X dX7_signAt_22 rfl rfl) (L_iconst (v := 1) X dX7_signAt_23 (by decide)) (C_eq_F X dX7_signAt_24 (by decide))) (XE_2 wR (XE_1 (L_aload_n (r := (some this)) 1 X dX7_signAt_27 rfl rfl) (O_gr (c := 8) (j := 32) X rfl inW7 (by decide) fl_X7_96 rfl dX7_signAt_28)) (L_iload_n (x := message_) 2 X dX7_signAt_31 rfl rfl) (O_ai X dX7_signAt_32)) (S_goto X dX7_signAt_33 (by decide)) (XE_2 wR (XE_1 (L_aload_n (r := (some this)) 1 X dX7_signAt_36 rfl rfl) (O_gr (c := 8) (j := 33) X rfl inW7 (by decide) fl_X7_99 rfl dX7_signAt_37)) (L_iload_n (x := message_) 2 X dX7_signAt_40 rfl rfl) (O_ai X dX7_signAt_41))) (O_iadd X dX7_signAt_42)) (O_i2c X dX7_signAt_43)))
  (SB_if (CE_2 wI (L_iload_n (x := place_) 3 X dX7_signAt_45 rfl rfl) (L_iconst (v := 4) X dX7_signAt_46 (by decide)) (C_eq_F X dX7_signAt_47 (by decide)))
  (SB_retC X C hr dX7_signAt_60 (XE_1 (XE_2 wI (L_bipush (v := (48)) X dX7_signAt_50 (by decide)) (XE_2 wR (XE_1 (L_aload_n (r := (some this)) 1 X dX7_signAt_52 rfl rfl) (O_gr (c := 8) (j := 34) X rfl inW7 (by decide) fl_X7_102 rfl dX7_signAt_53)) (L_iload_n (x := message_) 2 X dX7_signAt_56 rfl rfl) (O_ai X dX7_signAt_57)) (O_iadd X dX7_signAt_58)) (O_i2c X dX7_signAt_59)))
  (SB_if (CE_and (CE_2 wI (L_iload_n (x := place_) 3 X dX7_signAt_61 rfl rfl) (L_iconst (v := 5) X dX7_signAt_62 (by decide)) (C_gt_F X dX7_signAt_63 (by decide))) (CE_2 wI (L_iload_n (x := place_) 3 X dX7_signAt_66 rfl rfl) (XE_2 wI (L_bipush (v := (6)) X dX7_signAt_67 (by decide)) (L_iload_n (x := many_5) 0 X dX7_signAt_69 rfl rfl) (O_iadd X dX7_signAt_70)) (C_lt_F X dX7_signAt_71 (by decide))))
  (SB_let (XE_2 wI (XE_2 wI (L_iconst (v := 5) X dX7_signAt_74 (by decide)) (L_iload_n (x := many_5) 0 X dX7_signAt_75 rfl rfl) (O_iadd X dX7_signAt_76)) (L_iload_n (x := place_) 3 X dX7_signAt_77 rfl rfl) (O_isub X dX7_signAt_78)) (S_istore (ev := fun left_42 => [(4, .int left_42), (3, .int many_5), (0, va_rf (some this)), (1, .int message_), (2, .int place_)]) X dX7_signAt_79 (by rw [hN]; decide) (fun _ => rfl)) fun left_42 =>
  (SB_let (XE_tern (CE_1 (L_iload (x := left_42) 0 X dX7_signAt_81 rfl) (Z_eq_F X dX7_signAt_83 (by decide))) (XE_2 wR (XE_1 (L_aload_n (r := (some this)) 2 X dX7_signAt_86 rfl rfl) (O_gr (c := 8) (j := 36) X rfl inW7 (by decide) fl_X7_108 rfl dX7_signAt_87)) (L_iload_n (x := message_) 3 X dX7_signAt_90 rfl rfl) (O_ai X dX7_signAt_91)) (S_goto X dX7_signAt_92 (by decide)) (XE_tern (CE_2 wI (L_iload (x := left_42) 0 X dX7_signAt_95 rfl) (L_iconst (v := 1) X dX7_signAt_97 (by decide)) (C_eq_F X dX7_signAt_98 (by decide))) (XE_2 wI (XE_2 wR (XE_1 (L_aload_n (r := (some this)) 2 X dX7_signAt_101 rfl rfl) (O_gr (c := 8) (j := 36) X rfl inW7 (by decide) fl_X7_108 rfl dX7_signAt_102)) (L_iload_n (x := message_) 3 X dX7_signAt_105 rfl rfl) (O_ai X dX7_signAt_106)) (L_bipush (v := (10)) X dX7_signAt_107 (by decide)) (O_idiv X dX7_signAt_109)) (S_goto X dX7_signAt_110 (by decide)) (XE_2 wI (XE_2 wR (XE_1 (L_aload_n (r := (some this)) 2 X dX7_signAt_113 rfl rfl) (O_gr (c := 8) (j := 36) X rfl inW7 (by decide) fl_X7_108 rfl dX7_signAt_114)) (L_iload_n (x := message_) 3 X dX7_signAt_117 rfl rfl) (O_ai X dX7_signAt_118)) (L_bipush (v := (100)) X dX7_signAt_119 (by decide)) (O_idiv X dX7_signAt_121)))) (S_istore (ev := fun part_61 => [(5, .int part_61), (4, .int left_42), (3, .int many_5), (0, va_rf (some this)), (1, .int message_), (2, .int place_)]) X dX7_signAt_122 (by rw [hN]; decide) (fun _ => rfl)) fun part_61 =>
  (SB_retC X C hr dX7_signAt_133 (XE_1 (XE_2 wI (L_bipush (v := (48)) X dX7_signAt_124 (by decide)) (XE_2 wI (L_iload (x := part_61) 0 X dX7_signAt_126 rfl) (L_bipush (v := (10)) X dX7_signAt_128 (by decide)) (O_irem X dX7_signAt_130)) (O_iadd X dX7_signAt_131)) (O_i2c X dX7_signAt_132)))))
  (SB_retC X C hr dX7_signAt_161 (XE_tern (CE_2 wI (L_iload_n (x := place_) 3 X dX7_signAt_134 rfl rfl) (XE_2 wI (L_bipush (v := (6)) X dX7_signAt_135 (by decide)) (L_iload_n (x := many_5) 0 X dX7_signAt_137 rfl rfl) (O_iadd X dX7_signAt_138)) (C_gt_F X dX7_signAt_139 (by decide))) (XE_2 (pB := pI) wL (XE_2 (pB := pL) wR (L_aload_n (r := (some this)) 1 X dX7_signAt_142 rfl rfl) (L_iload_n (x := message_) 2 X dX7_signAt_143 rfl rfl) (fun v0 v1 st mm a b hd hc hs h => g_callVo (st := st) (cI := 8) X hT htr rfl (fun q => M_X7_answerWord q v1) lk_X7_answerWord im_X7_answerWord se_X7_answerWord ml_X7_295 rfl (by rw [hR]; exact ⟨Nat.le_of_ble_eq_true rfl, Nat.le_of_ble_eq_true rfl⟩) (Nat.le_trans hd (by decide)) ⟨hc, hs⟩ dX7_signAt_144 h)) (XE_2 wI (XE_2 wI (L_iload_n (x := place_) 3 X dX7_signAt_147 rfl rfl) (L_bipush (v := (7)) X dX7_signAt_148 (by decide)) (O_isub X dX7_signAt_150)) (L_iload_n (x := many_5) 0 X dX7_signAt_151 rfl rfl) (O_isub X dX7_signAt_152)) (fun v0 v1 st mm a b hd hc hs h => g_callS (st := st) X hT htr (M_X7_letter v0 v1) lk_X7_letter st_X7_letter ml_X7_312 rfl (by rw [hR]; exact ⟨Nat.le_of_ble_eq_true rfl, Nat.le_of_ble_eq_true rfl⟩) (Nat.le_trans hd (by decide)) ⟨hc, hs⟩ dX7_signAt_153 h)) (S_goto X dX7_signAt_156 (by decide)) (L_bipush (v := (32)) X dX7_signAt_159 (by decide)))))))) h (by rw [hR]; decide) (by rw [hR]; decide)
theorem dX7_lineChar_0 : decode cX7_lineChar 0 = .ok (.aload_n 0, 1) := by decide +kernel
theorem dX7_lineChar_1 : decode cX7_lineChar 1 = .ok (.iload_n 1, 1) := by decide +kernel
theorem dX7_lineChar_2 : decode cX7_lineChar 2 = .ok (.invokevirtual 267, 3) := by decide +kernel
theorem dX7_lineChar_5 : decode cX7_lineChar 5 = .ok (.istore_n 3, 1) := by decide +kernel
theorem dX7_lineChar_6 : decode cX7_lineChar 6 = .ok (.aload_n 0, 1) := by decide +kernel
theorem dX7_lineChar_7 : decode cX7_lineChar 7 = .ok (.iload_n 3, 1) := by decide +kernel
theorem dX7_lineChar_8 : decode cX7_lineChar 8 = .ok (.ifCond .eq 30, 3) := by decide +kernel
theorem dX7_lineChar_11 : decode cX7_lineChar 11 = .ok (.iload_n 2, 1) := by decide +kernel
theorem dX7_lineChar_12 : decode cX7_lineChar 12 = .ok (.iconst 0, 1) := by decide +kernel
theorem dX7_lineChar_13 : decode cX7_lineChar 13 = .ok (.aload_n 0, 1) := by decide +kernel
theorem dX7_lineChar_14 : decode cX7_lineChar 14 = .ok (.iload_n 3, 1) := by decide +kernel
theorem dX7_lineChar_15 : decode cX7_lineChar 15 = .ok (.ifCond .eq 7, 3) := by decide +kernel
theorem dX7_lineChar_18 : decode cX7_lineChar 18 = .ok (.iload_n 1, 1) := by decide +kernel
theorem dX7_lineChar_19 : decode cX7_lineChar 19 = .ok (.goto 4, 3) := by decide +kernel
theorem dX7_lineChar_22 : decode cX7_lineChar 22 = .ok (.iconst 0, 1) := by decide +kernel
theorem dX7_lineChar_23 : decode cX7_lineChar 23 = .ok (.invokevirtual 309, 3) := by decide +kernel
theorem dX7_lineChar_26 : decode cX7_lineChar 26 = .ok (.iconst 1, 1) := by decide +kernel
theorem dX7_lineChar_27 : decode cX7_lineChar 27 = .ok (.isub, 1) := by decide +kernel
theorem dX7_lineChar_28 : decode cX7_lineChar 28 = .ok (.invokestatic 139, 3) := by decide +kernel
theorem dX7_lineChar_31 : decode cX7_lineChar 31 = .ok (.ifCond .eq 7, 3) := by decide +kernel
theorem dX7_lineChar_34 : decode cX7_lineChar 34 = .ok (.iconst 1, 1) := by decide +kernel
theorem dX7_lineChar_35 : decode cX7_lineChar 35 = .ok (.goto 4, 3) := by decide +kernel
theorem dX7_lineChar_38 : decode cX7_lineChar 38 = .ok (.iconst 0, 1) := by decide +kernel
theorem dX7_lineChar_39 : decode cX7_lineChar 39 = .ok (.iconst 1, 1) := by decide +kernel
theorem dX7_lineChar_40 : decode cX7_lineChar 40 = .ok (.iconst 1, 1) := by decide +kernel
theorem dX7_lineChar_41 : decode cX7_lineChar 41 = .ok (.invokevirtual 153, 3) := by decide +kernel
theorem dX7_lineChar_44 : decode cX7_lineChar 44 = .ok (.ifCond .ne 6, 3) := by decide +kernel
theorem dX7_lineChar_47 : decode cX7_lineChar 47 = .ok (.bipush 32, 2) := by decide +kernel
theorem dX7_lineChar_49 : decode cX7_lineChar 49 = .ok (.ireturn, 1) := by decide +kernel
theorem dX7_lineChar_50 : decode cX7_lineChar 50 = .ok (.aload_n 0, 1) := by decide +kernel
theorem dX7_lineChar_51 : decode cX7_lineChar 51 = .ok (.iload_n 1, 1) := by decide +kernel
theorem dX7_lineChar_52 : decode cX7_lineChar 52 = .ok (.invokevirtual 303, 3) := by decide +kernel
theorem dX7_lineChar_55 : decode cX7_lineChar 55 = .ok (.invokestatic 299, 3) := by decide +kernel
theorem dX7_lineChar_58 : decode cX7_lineChar 58 = .ok (.istore 4, 2) := by decide +kernel
theorem dX7_lineChar_60 : decode cX7_lineChar 60 = .ok (.iload_n 2, 1) := by decide +kernel
theorem dX7_lineChar_61 : decode cX7_lineChar 61 = .ok (.iload 4, 2) := by decide +kernel
theorem dX7_lineChar_63 : decode cX7_lineChar 63 = .ok (.if_icmp .ge 15, 3) := by decide +kernel
theorem dX7_lineChar_66 : decode cX7_lineChar 66 = .ok (.aload_n 0, 1) := by decide +kernel
theorem dX7_lineChar_67 : decode cX7_lineChar 67 = .ok (.iload_n 1, 1) := by decide +kernel
theorem dX7_lineChar_68 : decode cX7_lineChar 68 = .ok (.invokevirtual 303, 3) := by decide +kernel
theorem dX7_lineChar_71 : decode cX7_lineChar 71 = .ok (.iload_n 2, 1) := by decide +kernel
theorem dX7_lineChar_72 : decode cX7_lineChar 72 = .ok (.invokestatic 312, 3) := by decide +kernel
theorem dX7_lineChar_75 : decode cX7_lineChar 75 = .ok (.goto 12, 3) := by decide +kernel
theorem dX7_lineChar_78 : decode cX7_lineChar 78 = .ok (.aload_n 0, 1) := by decide +kernel
theorem dX7_lineChar_79 : decode cX7_lineChar 79 = .ok (.iload_n 1, 1) := by decide +kernel
theorem dX7_lineChar_80 : decode cX7_lineChar 80 = .ok (.iload_n 2, 1) := by decide +kernel
theorem dX7_lineChar_81 : decode cX7_lineChar 81 = .ok (.iload 4, 2) := by decide +kernel
theorem dX7_lineChar_83 : decode cX7_lineChar 83 = .ok (.isub, 1) := by decide +kernel
theorem dX7_lineChar_84 : decode cX7_lineChar 84 = .ok (.invokevirtual 316, 3) := by decide +kernel
theorem dX7_lineChar_87 : decode cX7_lineChar 87 = .ok (.ireturn, 1) := by decide +kernel
theorem lk_X7_lineChar : LK yX7_lineChar cX7_lineChar 5 (some .char) 2 := ⟨qW_at 1709 (by decide +kernel) rfl, qW_at 78 (by decide +kernel) rfl, by decide, by decide, by decide +kernel⟩
theorem im_X7_lineChar : Cond.instanceMethod yX7_lineChar ∈ qW := qW_at 1707 (by decide +kernel) rfl
theorem se_X7_lineChar : Cond.selects RX7 yX7_lineChar yX7_lineChar ∈ qW := qW_at 1708 (by decide +kernel) rfl
def F_X7_lineChar (this : Nat) (message_ : Int32) (place_ : Int32) : QX Int32 :=
  (xb (xb (xp (some this)) fun v1 => xb (xp message_) fun v2 => xo 8 v1 fun q => F_X7_isMessage q v2) fun is_3 =>
  (xb (xb (xb (xb (xp (some this)) fun v17 => xb (xb (xb (xb (xp is_3) fun v4 => xp (decide (¬ v4 = 0))) fun v15 => if v15 then (xb (xb (xp place_) fun v11 => xb (xp (0 : Int32)) fun v12 => xb (xb (xb (xp (some this)) fun v7 => xb (xb (xb (xp is_3) fun v5 => xp (decide (¬ v5 = 0))) fun v6 => if v6 then (xp message_) else (xp (0 : Int32))) fun v8 => xo 8 v7 fun q => F_X7_lineOf q v8) fun v9 => xb (xp (1 : Int32)) fun v10 => (xp (v9 - v10))) fun v13 => F_X7_in v11 v12 v13) fun v14 => xp (decide (¬ v14 = 0))) else xp false) fun v16 => xp (b2i v16)) fun v18 => xb (xp (1 : Int32)) fun v19 => xb (xp (1 : Int32)) fun v20 => xo 8 v17 fun q => F_X7_goes q v18 v19 v20) fun v21 => xp (decide (¬ v21 = 0))) fun v22 => xp (!v22)) fun v39 => if v39 then (xb (xp (32 : Int32)) xch) else
  (xb (xb (xb (xp (some this)) fun v23 => xb (xp message_) fun v24 => xo 8 v23 fun q => F_X7_kindWord q v24) fun v25 => F_X7_letters v25) fun word_26 =>
  (xb (xb (xb (xp place_) fun v27 => xb (xp word_26) fun v28 => xp (decide (v27 < v28))) fun v38 => if v38 then (xb (xb (xp (some this)) fun v29 => xb (xp message_) fun v30 => xo 8 v29 fun q => F_X7_kindWord q v30) fun v31 => xb (xp place_) fun v32 => F_X7_letter v31 v32) else (xb (xp (some this)) fun v35 => xb (xp message_) fun v36 => xb (xb (xp place_) fun v33 => xb (xp word_26) fun v34 => (xp (v33 - v34))) fun v37 => xo 8 v35 fun q => F_X7_signAt q v36 v37)) xch))))
set_option maxRecDepth 100000 in
set_option maxHeartbeats 4000000 in
theorem M_X7_lineChar (this : Nat) (message_ : Int32) (place_ : Int32) : MM yX7_lineChar cX7_lineChar 5 (some .char) 2 47 0 0 encI [.ref this, .int message_, .int place_] (F_X7_lineChar this message_ place_) := by
  refine MM_of (env0 := [(0, va_rf (some this)), (1, .int message_), (2, .int place_)]) (by decide) (by exact Nat.le_of_ble_eq_true rfl) (by rfl) (fun k mm res X C hR hN hr hname h => ?_)
  have X : CX k cX7_lineChar RX7 := X
  have hT : TH k (fun e m' => res = (.error e, m')) := TH_of C
  have htr := C.2.2.2.1
  unfold F_X7_lineChar at h
  exact SB_go (T := fun e m' => res = (.error e, m')) (RET := fun v m' => res = (.ok v, m')) (SB_let (XE_2 (pB := pI) wR (L_aload_n (r := (some this)) 0 X dX7_lineChar_0 rfl rfl) (L_iload_n (x := message_) 1 X dX7_lineChar_1 rfl rfl) (fun v0 v1 st mm a b hd hc hs h => g_callVo (st := st) (cI := 8) X hT htr rfl (fun q => M_X7_isMessage q v1) lk_X7_isMessage im_X7_isMessage se_X7_isMessage ml_X7_267 rfl (by rw [hR]; exact ⟨Nat.le_of_ble_eq_true rfl, Nat.le_of_ble_eq_true rfl⟩) (Nat.le_trans hd (by decide)) ⟨hc, hs⟩ dX7_lineChar_2 h)) (S_istore_n (ev := fun is_3 => [(3, .int is_3), (0, va_rf (some this)), (1, .int message_), (2, .int place_)]) X dX7_lineChar_5 rfl (by rw [hN]; decide) (fun _ => rfl)) fun is_3 =>
  (SB_if (CE_not (CE_1 (XE_4 (pB := pI) wR wI wI (L_aload_n (r := (some this)) 1 X dX7_lineChar_6 rfl rfl) (XE_b2i (CE_and (CE_1 (L_iload_n (x := is_3) 0 X dX7_lineChar_7 rfl rfl) (Z_ne_F X dX7_lineChar_8 (by decide))) (CE_1 (XE_3 (pB := pI) wI wI (L_iload_n (x := place_) 3 X dX7_lineChar_11 rfl rfl) (L_iconst (v := 0) X dX7_lineChar_12 (by decide)) (XE_2 wI (XE_2 (pB := pI) wR (L_aload_n (r := (some this)) 1 X dX7_lineChar_13 rfl rfl) (XE_tern (CE_1 (L_iload_n (x := is_3) 0 X dX7_lineChar_14 rfl rfl) (Z_ne_F X dX7_lineChar_15 (by decide))) (L_iload_n (x := message_) 2 X dX7_lineChar_18 rfl rfl) (S_goto X dX7_lineChar_19 (by decide)) (L_iconst (v := 0) X dX7_lineChar_22 (by decide))) (fun v0 v1 st mm a b hd hc hs h => g_callVo (st := st) (cI := 8) X hT htr rfl (fun q => M_X7_lineOf q v1) lk_X7_lineOf im_X7_lineOf se_X7_lineOf ml_X7_309 rfl (by rw [hR]; exact ⟨Nat.le_of_ble_eq_true rfl, Nat.le_of_ble_eq_true rfl⟩) (Nat.le_trans hd (by decide)) ⟨hc, hs⟩ dX7_lineChar_23 h)) (L_iconst (v := 1) X dX7_lineChar_26 (by decide)) (O_isub X dX7_lineChar_27)) (fun v0 v1 v2 st mm a b hd hc hs h => g_callS (st := st) X hT htr (M_X7_in v0 v1 v2) lk_X7_in st_X7_in ml_X7_139 rfl (by rw [hR]; exact ⟨Nat.le_of_ble_eq_true rfl, Nat.le_of_ble_eq_true rfl⟩) (Nat.le_trans hd (by decide)) ⟨hc, hs⟩ dX7_lineChar_28 h)) (Z_ne_F X dX7_lineChar_31 (by decide)))) (S_b1 X dX7_lineChar_34 dX7_lineChar_35 (by decide)) (S_b0 X dX7_lineChar_38)) (L_iconst (v := 1) X dX7_lineChar_39 (by decide)) (L_iconst (v := 1) X dX7_lineChar_40 (by decide)) (fun v0 v1 v2 v3 st mm a b hd hc hs h => g_callVo (st := st) (cI := 8) X hT htr rfl (fun q => M_X7_goes q v1 v2 v3) lk_X7_goes im_X7_goes se_X7_goes ml_X7_153 rfl (by rw [hR]; exact ⟨Nat.le_of_ble_eq_true rfl, Nat.le_of_ble_eq_true rfl⟩) (Nat.le_trans hd (by decide)) ⟨hc, hs⟩ dX7_lineChar_41 h)) (Z_ne_T X dX7_lineChar_44 (by decide))))
  (SB_retC X C hr dX7_lineChar_49 (L_bipush (v := (32)) X dX7_lineChar_47 (by decide)))
  (SB_let (XE_1 (pB := pI)  (XE_2 (pB := pL) wR (L_aload_n (r := (some this)) 1 X dX7_lineChar_50 rfl rfl) (L_iload_n (x := message_) 2 X dX7_lineChar_51 rfl rfl) (fun v0 v1 st mm a b hd hc hs h => g_callVo (st := st) (cI := 8) X hT htr rfl (fun q => M_X7_kindWord q v1) lk_X7_kindWord im_X7_kindWord se_X7_kindWord ml_X7_303 rfl (by rw [hR]; exact ⟨Nat.le_of_ble_eq_true rfl, Nat.le_of_ble_eq_true rfl⟩) (Nat.le_trans hd (by decide)) ⟨hc, hs⟩ dX7_lineChar_52 h)) (fun v0 st mm a b hd hc hs h => g_callS (st := st) X hT htr (M_X7_letters v0) lk_X7_letters st_X7_letters ml_X7_299 rfl (by rw [hR]; exact ⟨Nat.le_of_ble_eq_true rfl, Nat.le_of_ble_eq_true rfl⟩) (Nat.le_trans hd (by decide)) ⟨hc, hs⟩ dX7_lineChar_55 h)) (S_istore (ev := fun word_26 => [(4, .int word_26), (3, .int is_3), (0, va_rf (some this)), (1, .int message_), (2, .int place_)]) X dX7_lineChar_58 (by rw [hN]; decide) (fun _ => rfl)) fun word_26 =>
  (SB_retC X C hr dX7_lineChar_87 (XE_tern (CE_2 wI (L_iload_n (x := place_) 4 X dX7_lineChar_60 rfl rfl) (L_iload (x := word_26) 0 X dX7_lineChar_61 rfl) (C_lt_F X dX7_lineChar_63 (by decide))) (XE_2 (pB := pI) wL (XE_2 (pB := pL) wR (L_aload_n (r := (some this)) 2 X dX7_lineChar_66 rfl rfl) (L_iload_n (x := message_) 3 X dX7_lineChar_67 rfl rfl) (fun v0 v1 st mm a b hd hc hs h => g_callVo (st := st) (cI := 8) X hT htr rfl (fun q => M_X7_kindWord q v1) lk_X7_kindWord im_X7_kindWord se_X7_kindWord ml_X7_303 rfl (by rw [hR]; exact ⟨Nat.le_of_ble_eq_true rfl, Nat.le_of_ble_eq_true rfl⟩) (Nat.le_trans hd (by decide)) ⟨hc, hs⟩ dX7_lineChar_68 h)) (L_iload_n (x := place_) 4 X dX7_lineChar_71 rfl rfl) (fun v0 v1 st mm a b hd hc hs h => g_callS (st := st) X hT htr (M_X7_letter v0 v1) lk_X7_letter st_X7_letter ml_X7_312 rfl (by rw [hR]; exact ⟨Nat.le_of_ble_eq_true rfl, Nat.le_of_ble_eq_true rfl⟩) (Nat.le_trans hd (by decide)) ⟨hc, hs⟩ dX7_lineChar_72 h)) (S_goto X dX7_lineChar_75 (by decide)) (XE_3 (pB := pI) wR wI (L_aload_n (r := (some this)) 2 X dX7_lineChar_78 rfl rfl) (L_iload_n (x := message_) 3 X dX7_lineChar_79 rfl rfl) (XE_2 wI (L_iload_n (x := place_) 4 X dX7_lineChar_80 rfl rfl) (L_iload (x := word_26) 0 X dX7_lineChar_81 rfl) (O_isub X dX7_lineChar_83)) (fun v0 v1 v2 st mm a b hd hc hs h => g_callVo (st := st) (cI := 8) X hT htr rfl (fun q => M_X7_signAt q v1 v2) lk_X7_signAt im_X7_signAt se_X7_signAt ml_X7_316 rfl (by rw [hR]; exact ⟨Nat.le_of_ble_eq_true rfl, Nat.le_of_ble_eq_true rfl⟩) (Nat.le_trans hd (by decide)) ⟨hc, hs⟩ dX7_lineChar_84 h))))))) h (by rw [hR]; decide) (by rw [hR]; decide)
theorem dX7_meetings_0 : decode cX7_meetings 0 = .ok (.aload_n 0, 1) := by decide +kernel
theorem dX7_meetings_1 : decode cX7_meetings 1 = .ok (.aload_n 0, 1) := by decide +kernel
theorem dX7_meetings_2 : decode cX7_meetings 2 = .ok (.getfield 143, 3) := by decide +kernel
theorem dX7_meetings_5 : decode cX7_meetings 5 = .ok (.invokevirtual 276, 3) := by decide +kernel
theorem dX7_meetings_8 : decode cX7_meetings 8 = .ok (.ireturn, 1) := by decide +kernel
theorem lk_X7_meetings : LK yX7_meetings cX7_meetings 1 (some .int) 0 := ⟨qW_at 1721 (by decide +kernel) rfl, qW_at 78 (by decide +kernel) rfl, by decide, by decide, by decide +kernel⟩
theorem im_X7_meetings : Cond.instanceMethod yX7_meetings ∈ qW := qW_at 1719 (by decide +kernel) rfl
theorem se_X7_meetings : Cond.selects RX7 yX7_meetings yX7_meetings ∈ qW := qW_at 1720 (by decide +kernel) rfl
def F_X7_meetings (this : Nat) : QX Int32 :=
  (xb (xp (some this)) fun v2 => xb (xb (xp (some this)) fun v1 => xgi 8 3 v1) fun v3 => xo 8 v2 fun q => F_X7_tells q v3)
set_option maxRecDepth 100000 in
set_option maxHeartbeats 4000000 in
theorem M_X7_meetings (this : Nat) : MM yX7_meetings cX7_meetings 1 (some .int) 1 21 0 0 encI [.ref this] (F_X7_meetings this) := by
  refine MM_of (env0 := [(0, va_rf (some this))]) (by decide) (by exact Nat.le_of_ble_eq_true rfl) (by rfl) (fun k mm res X C hR hN hr hname h => ?_)
  have X : CX k cX7_meetings RX7 := X
  have hT : TH k (fun e m' => res = (.error e, m')) := TH_of C
  have htr := C.2.2.2.1
  unfold F_X7_meetings at h
  exact SB_go (T := fun e m' => res = (.error e, m')) (RET := fun v m' => res = (.ok v, m')) (SB_retI X C hr dX7_meetings_8 (XE_2 (pB := pI) wR (L_aload_n (r := (some this)) 0 X dX7_meetings_0 rfl rfl) (XE_1 (L_aload_n (r := (some this)) 0 X dX7_meetings_1 rfl rfl) (O_gi (c := 8) (j := 3) X rfl inW7 (by decide) fl_X7_143 rfl dX7_meetings_2)) (fun v0 v1 st mm a b hd hc hs h => g_callVo (st := st) (cI := 8) X hT htr rfl (fun q => M_X7_tells q v1) lk_X7_tells im_X7_tells se_X7_tells ml_X7_276 rfl (by rw [hR]; exact ⟨Nat.le_of_ble_eq_true rfl, Nat.le_of_ble_eq_true rfl⟩) (Nat.le_trans hd (by decide)) ⟨hc, hs⟩ dX7_meetings_5 h))) h (by rw [hR]; decide) (by rw [hR]; decide)
theorem dX7_versionOf_0 : decode cX7_versionOf 0 = .ok (.aload_n 0, 1) := by decide +kernel
theorem dX7_versionOf_1 : decode cX7_versionOf 1 = .ok (.getfield 19, 3) := by decide +kernel
theorem dX7_versionOf_4 : decode cX7_versionOf 4 = .ok (.iload_n 2, 1) := by decide +kernel
theorem dX7_versionOf_5 : decode cX7_versionOf 5 = .ok (.iaload, 1) := by decide +kernel
theorem dX7_versionOf_6 : decode cX7_versionOf 6 = .ok (.iload_n 1, 1) := by decide +kernel
theorem dX7_versionOf_7 : decode cX7_versionOf 7 = .ok (.if_icmp .ne 12, 3) := by decide +kernel
theorem dX7_versionOf_10 : decode cX7_versionOf 10 = .ok (.aload_n 0, 1) := by decide +kernel
theorem dX7_versionOf_11 : decode cX7_versionOf 11 = .ok (.getfield 22, 3) := by decide +kernel
theorem dX7_versionOf_14 : decode cX7_versionOf 14 = .ok (.iload_n 2, 1) := by decide +kernel
theorem dX7_versionOf_15 : decode cX7_versionOf 15 = .ok (.iaload, 1) := by decide +kernel
theorem dX7_versionOf_16 : decode cX7_versionOf 16 = .ok (.goto 13, 3) := by decide +kernel
theorem dX7_versionOf_19 : decode cX7_versionOf 19 = .ok (.aload_n 0, 1) := by decide +kernel
theorem dX7_versionOf_20 : decode cX7_versionOf 20 = .ok (.getfield 81, 3) := by decide +kernel
theorem dX7_versionOf_23 : decode cX7_versionOf 23 = .ok (.iload_n 1, 1) := by decide +kernel
theorem dX7_versionOf_24 : decode cX7_versionOf 24 = .ok (.iload_n 2, 1) := by decide +kernel
theorem dX7_versionOf_25 : decode cX7_versionOf 25 = .ok (.invokestatic 171, 3) := by decide +kernel
theorem dX7_versionOf_28 : decode cX7_versionOf 28 = .ok (.iaload, 1) := by decide +kernel
theorem dX7_versionOf_29 : decode cX7_versionOf 29 = .ok (.ireturn, 1) := by decide +kernel
theorem lk_X7_versionOf : LK yX7_versionOf cX7_versionOf 3 (some .int) 2 := ⟨qW_at 1737 (by decide +kernel) rfl, qW_at 78 (by decide +kernel) rfl, by decide, by decide, by decide +kernel⟩
theorem im_X7_versionOf : Cond.instanceMethod yX7_versionOf ∈ qW := qW_at 1736 (by decide +kernel) rfl
theorem se_X7_versionOf : Cond.selects RX7 yX7_versionOf yX7_versionOf ∈ qW := qW_at 63 (by decide +kernel) rfl
def F_X7_versionOf (this : Nat) (person_ : Int32) (its_ : Int32) : QX Int32 :=
  (xb (xb (xb (xb (xp (some this)) fun v1 => xgr 8 4 v1) fun v2 => xb (xp its_) fun v3 => xai 0 v2 v3) fun v4 => xb (xp person_) fun v5 => xp (decide (v4 = v5))) fun v14 => if v14 then (xb (xb (xp (some this)) fun v6 => xgr 8 5 v6) fun v7 => xb (xp its_) fun v8 => xai 0 v7 v8) else (xb (xb (xp (some this)) fun v9 => xgr 8 25 v9) fun v12 => xb (xb (xp person_) fun v10 => xb (xp its_) fun v11 => F_X7_at v10 v11) fun v13 => xai 0 v12 v13))
set_option maxRecDepth 100000 in
set_option maxHeartbeats 4000000 in
theorem M_X7_versionOf (this : Nat) (person_ : Int32) (its_ : Int32) : MM yX7_versionOf cX7_versionOf 3 (some .int) 1 21 0 0 encI [.ref this, .int person_, .int its_] (F_X7_versionOf this person_ its_) := by
  refine MM_of (env0 := [(0, va_rf (some this)), (1, .int person_), (2, .int its_)]) (by decide) (by exact Nat.le_of_ble_eq_true rfl) (by rfl) (fun k mm res X C hR hN hr hname h => ?_)
  have X : CX k cX7_versionOf RX7 := X
  have hT : TH k (fun e m' => res = (.error e, m')) := TH_of C
  have htr := C.2.2.2.1
  unfold F_X7_versionOf at h
  exact SB_go (T := fun e m' => res = (.error e, m')) (RET := fun v m' => res = (.ok v, m')) (SB_retI X C hr dX7_versionOf_29 (XE_tern (CE_2 wI (XE_2 wR (XE_1 (L_aload_n (r := (some this)) 0 X dX7_versionOf_0 rfl rfl) (O_gr (c := 8) (j := 4) X rfl inW7 (by decide) fl_X7_19 rfl dX7_versionOf_1)) (L_iload_n (x := its_) 2 X dX7_versionOf_4 rfl rfl) (O_ai X dX7_versionOf_5)) (L_iload_n (x := person_) 1 X dX7_versionOf_6 rfl rfl) (C_eq_F X dX7_versionOf_7 (by decide))) (XE_2 wR (XE_1 (L_aload_n (r := (some this)) 0 X dX7_versionOf_10 rfl rfl) (O_gr (c := 8) (j := 5) X rfl inW7 (by decide) fl_X7_22 rfl dX7_versionOf_11)) (L_iload_n (x := its_) 2 X dX7_versionOf_14 rfl rfl) (O_ai X dX7_versionOf_15)) (S_goto X dX7_versionOf_16 (by decide)) (XE_2 wR (XE_1 (L_aload_n (r := (some this)) 0 X dX7_versionOf_19 rfl rfl) (O_gr (c := 8) (j := 25) X rfl inW7 (by decide) fl_X7_81 rfl dX7_versionOf_20)) (XE_2 (pB := pI) wI (L_iload_n (x := person_) 1 X dX7_versionOf_23 rfl rfl) (L_iload_n (x := its_) 2 X dX7_versionOf_24 rfl rfl) (fun v0 v1 st mm a b hd hc hs h => g_callS (st := st) X hT htr (M_X7_at v0 v1) lk_X7_at st_X7_at ml_X7_171 rfl (by rw [hR]; exact ⟨Nat.le_of_ble_eq_true rfl, Nat.le_of_ble_eq_true rfl⟩) (Nat.le_trans hd (by decide)) ⟨hc, hs⟩ dX7_versionOf_25 h)) (O_ai X dX7_versionOf_28)))) h (by rw [hR]; decide) (by rw [hR]; decide)
theorem dX7_asks_0 : decode cX7_asks 0 = .ok (.aload_n 0, 1) := by decide +kernel
theorem dX7_asks_1 : decode cX7_asks 1 = .ok (.iload_n 1, 1) := by decide +kernel
theorem dX7_asks_2 : decode cX7_asks 2 = .ok (.invokestatic 202, 3) := by decide +kernel
theorem dX7_asks_5 : decode cX7_asks 5 = .ok (.ifCond .eq 15, 3) := by decide +kernel
theorem dX7_asks_8 : decode cX7_asks 8 = .ok (.aload_n 0, 1) := by decide +kernel
theorem dX7_asks_9 : decode cX7_asks 9 = .ok (.iload_n 2, 1) := by decide +kernel
theorem dX7_asks_10 : decode cX7_asks 10 = .ok (.invokevirtual 211, 3) := by decide +kernel
theorem dX7_asks_13 : decode cX7_asks 13 = .ok (.ifCond .eq 7, 3) := by decide +kernel
theorem dX7_asks_16 : decode cX7_asks 16 = .ok (.iconst 1, 1) := by decide +kernel
theorem dX7_asks_17 : decode cX7_asks 17 = .ok (.goto 4, 3) := by decide +kernel
theorem dX7_asks_20 : decode cX7_asks 20 = .ok (.iconst 0, 1) := by decide +kernel
theorem dX7_asks_21 : decode cX7_asks 21 = .ok (.iconst 1, 1) := by decide +kernel
theorem dX7_asks_22 : decode cX7_asks 22 = .ok (.iconst 1, 1) := by decide +kernel
theorem dX7_asks_23 : decode cX7_asks 23 = .ok (.invokevirtual 153, 3) := by decide +kernel
theorem dX7_asks_26 : decode cX7_asks 26 = .ok (.ireturn, 1) := by decide +kernel
theorem lk_X7_asks : LK yX7_asks cX7_asks 3 (some .boolean) 2 := ⟨qW_at 1729 (by decide +kernel) rfl, qW_at 78 (by decide +kernel) rfl, by decide, by decide, by decide +kernel⟩
theorem im_X7_asks : Cond.instanceMethod yX7_asks ∈ qW := qW_at 1728 (by decide +kernel) rfl
theorem se_X7_asks : Cond.selects RX7 yX7_asks yX7_asks ∈ qW := qW_at 62 (by decide +kernel) rfl
def F_X7_asks (this : Nat) (person_ : Int32) (its_ : Int32) : QX Int32 :=
  (xb (xb (xp (some this)) fun v8 => xb (xb (xb (xb (xb (xp person_) fun v1 => F_X7_isPerson v1) fun v2 => xp (decide (¬ v2 = 0))) fun v6 => if v6 then (xb (xb (xp (some this)) fun v3 => xb (xp its_) fun v4 => xo 8 v3 fun q => F_X7_isMeeting q v4) fun v5 => xp (decide (¬ v5 = 0))) else xp false) fun v7 => xp (b2i v7)) fun v9 => xb (xp (1 : Int32)) fun v10 => xb (xp (1 : Int32)) fun v11 => xo 8 v8 fun q => F_X7_goes q v9 v10 v11) xz)
set_option maxRecDepth 100000 in
set_option maxHeartbeats 4000000 in
theorem M_X7_asks (this : Nat) (person_ : Int32) (its_ : Int32) : MM yX7_asks cX7_asks 3 (some .boolean) 2 43 0 0 encI [.ref this, .int person_, .int its_] (F_X7_asks this person_ its_) := by
  refine MM_of (env0 := [(0, va_rf (some this)), (1, .int person_), (2, .int its_)]) (by decide) (by exact Nat.le_of_ble_eq_true rfl) (by rfl) (fun k mm res X C hR hN hr hname h => ?_)
  have X : CX k cX7_asks RX7 := X
  have hT : TH k (fun e m' => res = (.error e, m')) := TH_of C
  have htr := C.2.2.2.1
  unfold F_X7_asks at h
  exact SB_go (T := fun e m' => res = (.error e, m')) (RET := fun v m' => res = (.ok v, m')) (SB_retZ X C hr dX7_asks_26 (XE_4 (pB := pI) wR wI wI (L_aload_n (r := (some this)) 0 X dX7_asks_0 rfl rfl) (XE_b2i (CE_and (CE_1 (XE_1 (pB := pI)  (L_iload_n (x := person_) 1 X dX7_asks_1 rfl rfl) (fun v0 st mm a b hd hc hs h => g_callS (st := st) X hT htr (M_X7_isPerson v0) lk_X7_isPerson st_X7_isPerson ml_X7_202 rfl (by rw [hR]; exact ⟨Nat.le_of_ble_eq_true rfl, Nat.le_of_ble_eq_true rfl⟩) (Nat.le_trans hd (by decide)) ⟨hc, hs⟩ dX7_asks_2 h)) (Z_ne_F X dX7_asks_5 (by decide))) (CE_1 (XE_2 (pB := pI) wR (L_aload_n (r := (some this)) 0 X dX7_asks_8 rfl rfl) (L_iload_n (x := its_) 2 X dX7_asks_9 rfl rfl) (fun v0 v1 st mm a b hd hc hs h => g_callVo (st := st) (cI := 8) X hT htr rfl (fun q => M_X7_isMeeting q v1) lk_X7_isMeeting im_X7_isMeeting se_X7_isMeeting ml_X7_211 rfl (by rw [hR]; exact ⟨Nat.le_of_ble_eq_true rfl, Nat.le_of_ble_eq_true rfl⟩) (Nat.le_trans hd (by decide)) ⟨hc, hs⟩ dX7_asks_10 h)) (Z_ne_F X dX7_asks_13 (by decide)))) (S_b1 X dX7_asks_16 dX7_asks_17 (by decide)) (S_b0 X dX7_asks_20)) (L_iconst (v := 1) X dX7_asks_21 (by decide)) (L_iconst (v := 1) X dX7_asks_22 (by decide)) (fun v0 v1 v2 v3 st mm a b hd hc hs h => g_callVo (st := st) (cI := 8) X hT htr rfl (fun q => M_X7_goes q v1 v2 v3) lk_X7_goes im_X7_goes se_X7_goes ml_X7_153 rfl (by rw [hR]; exact ⟨Nat.le_of_ble_eq_true rfl, Nat.le_of_ble_eq_true rfl⟩) (Nat.le_trans hd (by decide)) ⟨hc, hs⟩ dX7_asks_23 h))) h (by rw [hR]; decide) (by rw [hR]; decide)
theorem dX7_isThere_0 : decode cX7_isThere 0 = .ok (.aload_n 0, 1) := by decide +kernel
theorem dX7_isThere_1 : decode cX7_isThere 1 = .ok (.iload_n 1, 1) := by decide +kernel
theorem dX7_isThere_2 : decode cX7_isThere 2 = .ok (.iload_n 2, 1) := by decide +kernel
theorem dX7_isThere_3 : decode cX7_isThere 3 = .ok (.invokevirtual 320, 3) := by decide +kernel
theorem dX7_isThere_6 : decode cX7_isThere 6 = .ok (.ifCond .eq 16, 3) := by decide +kernel
theorem dX7_isThere_9 : decode cX7_isThere 9 = .ok (.aload_n 0, 1) := by decide +kernel
theorem dX7_isThere_10 : decode cX7_isThere 10 = .ok (.iload_n 1, 1) := by decide +kernel
theorem dX7_isThere_11 : decode cX7_isThere 11 = .ok (.iload_n 2, 1) := by decide +kernel
theorem dX7_isThere_12 : decode cX7_isThere 12 = .ok (.invokevirtual 174, 3) := by decide +kernel
theorem dX7_isThere_15 : decode cX7_isThere 15 = .ok (.ifCond .eq 7, 3) := by decide +kernel
theorem dX7_isThere_18 : decode cX7_isThere 18 = .ok (.iconst 1, 1) := by decide +kernel
theorem dX7_isThere_19 : decode cX7_isThere 19 = .ok (.goto 4, 3) := by decide +kernel
theorem dX7_isThere_22 : decode cX7_isThere 22 = .ok (.iconst 0, 1) := by decide +kernel
theorem dX7_isThere_23 : decode cX7_isThere 23 = .ok (.ireturn, 1) := by decide +kernel
theorem lk_X7_isThere : LK yX7_isThere cX7_isThere 3 (some .boolean) 2 := ⟨qW_at 1725 (by decide +kernel) rfl, qW_at 78 (by decide +kernel) rfl, by decide, by decide, by decide +kernel⟩
theorem im_X7_isThere : Cond.instanceMethod yX7_isThere ∈ qW := qW_at 1723 (by decide +kernel) rfl
theorem se_X7_isThere : Cond.selects RX7 yX7_isThere yX7_isThere ∈ qW := qW_at 1724 (by decide +kernel) rfl
def F_X7_isThere (this : Nat) (person_ : Int32) (its_ : Int32) : QX Int32 :=
  (xb (xb (xb (xb (xb (xp (some this)) fun v1 => xb (xp person_) fun v2 => xb (xp its_) fun v3 => xo 8 v1 fun q => F_X7_asks q v2 v3) fun v4 => xp (decide (¬ v4 = 0))) fun v9 => if v9 then (xb (xb (xp (some this)) fun v5 => xb (xp person_) fun v6 => xb (xp its_) fun v7 => xo 8 v5 fun q => F_X7_isHere q v6 v7) fun v8 => xp (decide (¬ v8 = 0))) else xp false) fun v10 => xp (b2i v10)) xz)
set_option maxRecDepth 100000 in
set_option maxHeartbeats 4000000 in
theorem M_X7_isThere (this : Nat) (person_ : Int32) (its_ : Int32) : MM yX7_isThere cX7_isThere 3 (some .boolean) 3 65 0 0 encI [.ref this, .int person_, .int its_] (F_X7_isThere this person_ its_) := by
  refine MM_of (env0 := [(0, va_rf (some this)), (1, .int person_), (2, .int its_)]) (by decide) (by exact Nat.le_of_ble_eq_true rfl) (by rfl) (fun k mm res X C hR hN hr hname h => ?_)
  have X : CX k cX7_isThere RX7 := X
  have hT : TH k (fun e m' => res = (.error e, m')) := TH_of C
  have htr := C.2.2.2.1
  unfold F_X7_isThere at h
  exact SB_go (T := fun e m' => res = (.error e, m')) (RET := fun v m' => res = (.ok v, m')) (SB_retZ X C hr dX7_isThere_23 (XE_b2i (CE_and (CE_1 (XE_3 (pB := pI) wR wI (L_aload_n (r := (some this)) 0 X dX7_isThere_0 rfl rfl) (L_iload_n (x := person_) 1 X dX7_isThere_1 rfl rfl) (L_iload_n (x := its_) 2 X dX7_isThere_2 rfl rfl) (fun v0 v1 v2 st mm a b hd hc hs h => g_callVo (st := st) (cI := 8) X hT htr rfl (fun q => M_X7_asks q v1 v2) lk_X7_asks im_X7_asks se_X7_asks ml_X7_320 rfl (by rw [hR]; exact ⟨Nat.le_of_ble_eq_true rfl, Nat.le_of_ble_eq_true rfl⟩) (Nat.le_trans hd (by decide)) ⟨hc, hs⟩ dX7_isThere_3 h)) (Z_ne_F X dX7_isThere_6 (by decide))) (CE_1 (XE_3 (pB := pI) wR wI (L_aload_n (r := (some this)) 0 X dX7_isThere_9 rfl rfl) (L_iload_n (x := person_) 1 X dX7_isThere_10 rfl rfl) (L_iload_n (x := its_) 2 X dX7_isThere_11 rfl rfl) (fun v0 v1 v2 st mm a b hd hc hs h => g_callVo (st := st) (cI := 8) X hT htr rfl (fun q => M_X7_isHere q v1 v2) lk_X7_isHere im_X7_isHere se_X7_isHere ml_X7_174 rfl (by rw [hR]; exact ⟨Nat.le_of_ble_eq_true rfl, Nat.le_of_ble_eq_true rfl⟩) (Nat.le_trans hd (by decide)) ⟨hc, hs⟩ dX7_isThere_12 h)) (Z_ne_F X dX7_isThere_15 (by decide)))) (S_b1 X dX7_isThere_18 dX7_isThere_19 (by decide)) (S_b0 X dX7_isThere_22))) h (by rw [hR]; decide) (by rw [hR]; decide)
theorem dX7_sequence_0 : decode cX7_sequence 0 = .ok (.aload_n 0, 1) := by decide +kernel
theorem dX7_sequence_1 : decode cX7_sequence 1 = .ok (.iload_n 1, 1) := by decide +kernel
theorem dX7_sequence_2 : decode cX7_sequence 2 = .ok (.iload_n 2, 1) := by decide +kernel
theorem dX7_sequence_3 : decode cX7_sequence 3 = .ok (.invokevirtual 320, 3) := by decide +kernel
theorem dX7_sequence_6 : decode cX7_sequence 6 = .ok (.ifCond .ne 5, 3) := by decide +kernel
theorem dX7_sequence_9 : decode cX7_sequence 9 = .ok (.iconst 0, 1) := by decide +kernel
theorem dX7_sequence_10 : decode cX7_sequence 10 = .ok (.ireturn, 1) := by decide +kernel
theorem dX7_sequence_11 : decode cX7_sequence 11 = .ok (.aload_n 0, 1) := by decide +kernel
theorem dX7_sequence_12 : decode cX7_sequence 12 = .ok (.iload_n 1, 1) := by decide +kernel
theorem dX7_sequence_13 : decode cX7_sequence 13 = .ok (.iload_n 2, 1) := by decide +kernel
theorem dX7_sequence_14 : decode cX7_sequence 14 = .ok (.invokevirtual 323, 3) := by decide +kernel
theorem dX7_sequence_17 : decode cX7_sequence 17 = .ok (.istore_n 3, 1) := by decide +kernel
theorem dX7_sequence_18 : decode cX7_sequence 18 = .ok (.iload_n 3, 1) := by decide +kernel
theorem dX7_sequence_19 : decode cX7_sequence 19 = .ok (.iconst (-1), 1) := by decide +kernel
theorem dX7_sequence_20 : decode cX7_sequence 20 = .ok (.if_icmp .ne 7, 3) := by decide +kernel
theorem dX7_sequence_23 : decode cX7_sequence 23 = .ok (.iconst (-1), 1) := by decide +kernel
theorem dX7_sequence_24 : decode cX7_sequence 24 = .ok (.goto 9, 3) := by decide +kernel
theorem dX7_sequence_27 : decode cX7_sequence 27 = .ok (.aload_n 0, 1) := by decide +kernel
theorem dX7_sequence_28 : decode cX7_sequence 28 = .ok (.getfield 32, 3) := by decide +kernel
theorem dX7_sequence_31 : decode cX7_sequence 31 = .ok (.iload_n 3, 1) := by decide +kernel
theorem dX7_sequence_32 : decode cX7_sequence 32 = .ok (.iaload, 1) := by decide +kernel
theorem dX7_sequence_33 : decode cX7_sequence 33 = .ok (.ireturn, 1) := by decide +kernel
theorem lk_X7_sequence : LK yX7_sequence cX7_sequence 4 (some .int) 2 := ⟨qW_at 1733 (by decide +kernel) rfl, qW_at 78 (by decide +kernel) rfl, by decide, by decide, by decide +kernel⟩
theorem im_X7_sequence : Cond.instanceMethod yX7_sequence ∈ qW := qW_at 1731 (by decide +kernel) rfl
theorem se_X7_sequence : Cond.selects RX7 yX7_sequence yX7_sequence ∈ qW := qW_at 1732 (by decide +kernel) rfl
def F_X7_sequence (this : Nat) (person_ : Int32) (its_ : Int32) : QX Int32 :=
  (xb (xb (xb (xb (xp (some this)) fun v1 => xb (xp person_) fun v2 => xb (xp its_) fun v3 => xo 8 v1 fun q => F_X7_asks q v2 v3) fun v4 => xp (decide (¬ v4 = 0))) fun v5 => xp (!v5)) fun v16 => if v16 then (xp (0 : Int32)) else
  (xb (xb (xp (some this)) fun v6 => xb (xp person_) fun v7 => xb (xp its_) fun v8 => xo 8 v6 fun q => F_X7_versionOf q v7 v8) fun by_9 =>
  (xb (xb (xp by_9) fun v10 => xb (xp (-1 : Int32)) fun v11 => xp (decide (v10 = v11))) fun v15 => if v15 then (xp (-1 : Int32)) else (xb (xb (xp (some this)) fun v12 => xgr 8 9 v12) fun v13 => xb (xp by_9) fun v14 => xai 0 v13 v14))))
set_option maxRecDepth 100000 in
set_option maxHeartbeats 4000000 in
theorem M_X7_sequence (this : Nat) (person_ : Int32) (its_ : Int32) : MM yX7_sequence cX7_sequence 4 (some .int) 3 65 0 0 encI [.ref this, .int person_, .int its_] (F_X7_sequence this person_ its_) := by
  refine MM_of (env0 := [(0, va_rf (some this)), (1, .int person_), (2, .int its_)]) (by decide) (by exact Nat.le_of_ble_eq_true rfl) (by rfl) (fun k mm res X C hR hN hr hname h => ?_)
  have X : CX k cX7_sequence RX7 := X
  have hT : TH k (fun e m' => res = (.error e, m')) := TH_of C
  have htr := C.2.2.2.1
  unfold F_X7_sequence at h
  exact SB_go (T := fun e m' => res = (.error e, m')) (RET := fun v m' => res = (.ok v, m')) (SB_if (CE_not (CE_1 (XE_3 (pB := pI) wR wI (L_aload_n (r := (some this)) 0 X dX7_sequence_0 rfl rfl) (L_iload_n (x := person_) 1 X dX7_sequence_1 rfl rfl) (L_iload_n (x := its_) 2 X dX7_sequence_2 rfl rfl) (fun v0 v1 v2 st mm a b hd hc hs h => g_callVo (st := st) (cI := 8) X hT htr rfl (fun q => M_X7_asks q v1 v2) lk_X7_asks im_X7_asks se_X7_asks ml_X7_320 rfl (by rw [hR]; exact ⟨Nat.le_of_ble_eq_true rfl, Nat.le_of_ble_eq_true rfl⟩) (Nat.le_trans hd (by decide)) ⟨hc, hs⟩ dX7_sequence_3 h)) (Z_ne_T X dX7_sequence_6 (by decide))))
  (SB_retI X C hr dX7_sequence_10 (L_iconst (v := 0) X dX7_sequence_9 (by decide)))
  (SB_let (XE_3 (pB := pI) wR wI (L_aload_n (r := (some this)) 0 X dX7_sequence_11 rfl rfl) (L_iload_n (x := person_) 1 X dX7_sequence_12 rfl rfl) (L_iload_n (x := its_) 2 X dX7_sequence_13 rfl rfl) (fun v0 v1 v2 st mm a b hd hc hs h => g_callVo (st := st) (cI := 8) X hT htr rfl (fun q => M_X7_versionOf q v1 v2) lk_X7_versionOf im_X7_versionOf se_X7_versionOf ml_X7_323 rfl (by rw [hR]; exact ⟨Nat.le_of_ble_eq_true rfl, Nat.le_of_ble_eq_true rfl⟩) (Nat.le_trans hd (by decide)) ⟨hc, hs⟩ dX7_sequence_14 h)) (S_istore_n (ev := fun by_9 => [(3, .int by_9), (0, va_rf (some this)), (1, .int person_), (2, .int its_)]) X dX7_sequence_17 rfl (by rw [hN]; decide) (fun _ => rfl)) fun by_9 =>
  (SB_retI X C hr dX7_sequence_33 (XE_tern (CE_2 wI (L_iload_n (x := by_9) 0 X dX7_sequence_18 rfl rfl) (L_iconst (v := (-1)) X dX7_sequence_19 (by decide)) (C_eq_F X dX7_sequence_20 (by decide))) (L_iconst (v := (-1)) X dX7_sequence_23 (by decide)) (S_goto X dX7_sequence_24 (by decide)) (XE_2 wR (XE_1 (L_aload_n (r := (some this)) 1 X dX7_sequence_27 rfl rfl) (O_gr (c := 8) (j := 9) X rfl inW7 (by decide) fl_X7_32 rfl dX7_sequence_28)) (L_iload_n (x := by_9) 0 X dX7_sequence_31 rfl rfl) (O_ai X dX7_sequence_32)))))) h (by rw [hR]; decide) (by rw [hR]; decide)
theorem dX7_many_0 : decode cX7_many 0 = .ok (.iconst 0, 1) := by decide +kernel
theorem dX7_many_1 : decode cX7_many 1 = .ok (.istore_n 2, 1) := by decide +kernel
theorem dX7_many_2 : decode cX7_many 2 = .ok (.iconst 0, 1) := by decide +kernel
theorem dX7_many_3 : decode cX7_many 3 = .ok (.istore_n 3, 1) := by decide +kernel
theorem dX7_many_4 : decode cX7_many 4 = .ok (.iload_n 3, 1) := by decide +kernel
theorem dX7_many_5 : decode cX7_many 5 = .ok (.bipush 60, 2) := by decide +kernel
theorem dX7_many_7 : decode cX7_many 7 = .ok (.if_icmp .ge 25, 3) := by decide +kernel
theorem dX7_many_10 : decode cX7_many 10 = .ok (.iload_n 2, 1) := by decide +kernel
theorem dX7_many_11 : decode cX7_many 11 = .ok (.lload_n 0, 1) := by decide +kernel
theorem dX7_many_12 : decode cX7_many 12 = .ok (.iload_n 3, 1) := by decide +kernel
theorem dX7_many_13 : decode cX7_many 13 = .ok (.invokestatic 180, 3) := by decide +kernel
theorem dX7_many_16 : decode cX7_many 16 = .ok (.ifCond .eq 7, 3) := by decide +kernel
theorem dX7_many_19 : decode cX7_many 19 = .ok (.iconst 1, 1) := by decide +kernel
theorem dX7_many_20 : decode cX7_many 20 = .ok (.goto 4, 3) := by decide +kernel
theorem dX7_many_23 : decode cX7_many 23 = .ok (.iconst 0, 1) := by decide +kernel
theorem dX7_many_24 : decode cX7_many 24 = .ok (.iadd, 1) := by decide +kernel
theorem dX7_many_25 : decode cX7_many 25 = .ok (.istore_n 2, 1) := by decide +kernel
theorem dX7_many_26 : decode cX7_many 26 = .ok (.iinc 3 1, 3) := by decide +kernel
theorem dX7_many_29 : decode cX7_many 29 = .ok (.goto (-25), 3) := by decide +kernel
theorem dX7_many_32 : decode cX7_many 32 = .ok (.iload_n 2, 1) := by decide +kernel
theorem dX7_many_33 : decode cX7_many 33 = .ok (.ireturn, 1) := by decide +kernel
theorem lk_X7_many : LK yX7_many cX7_many 4 (some .int) 1 := ⟨qW_at 1748 (by decide +kernel) rfl, qW_at 78 (by decide +kernel) rfl, by decide, by decide, by decide +kernel⟩
theorem st_X7_many : Cond.static yX7_many ∈ qW := qW_at 1747 (by decide +kernel) rfl
def F_X7_many (set_ : Int64) : QX Int32 :=
  (xb (xp (0 : Int32)) fun sum_1 =>
  (xb (xp (0 : Int32)) fun k_2 =>
  (xb (xl 2000 (fun (s3 : Int32 × Int32) => (xb (xp s3.2) fun v4 => xb (xp (60 : Int32)) fun v5 => xp (decide (v4 < v5)))) (fun (s3 : Int32 × Int32) =>
  (xb (xb (xp s3.1) fun v10 => xb (xb (xb (xb (xp set_) fun v6 => xb (xp s3.2) fun v7 => F_X7_has v6 v7) fun v8 => xp (decide (¬ v8 = 0))) fun v9 => if v9 then (xp (1 : Int32)) else (xp (0 : Int32))) fun v11 => (xp (v10 + v11))) fun sum_12 =>
  (xp (sum_12, (s3.2 + 1))))) (sum_1, k_2)) fun s13 =>
  (xp s13.1))))
set_option maxRecDepth 100000 in
set_option maxHeartbeats 4000000 in
theorem M_X7_many (set_ : Int64) : MM yX7_many cX7_many 4 (some .int) 1 22 0 0 encI [.long set_] (F_X7_many set_) := by
  refine MM_of (env0 := [(0, .long set_)]) (by decide) (by exact Nat.le_of_ble_eq_true rfl) (by rfl) (fun k mm res X C hR hN hr hname h => ?_)
  have X : CX k cX7_many RX7 := X
  have hT : TH k (fun e m' => res = (.error e, m')) := TH_of C
  have htr := C.2.2.2.1
  unfold F_X7_many at h
  exact SB_go (T := fun e m' => res = (.error e, m')) (RET := fun v m' => res = (.ok v, m')) (SB_let (L_iconst (v := 0) X dX7_many_0 (by decide)) (S_istore_n (ev := fun sum_1 => [(2, .int sum_1), (0, .long set_)]) X dX7_many_1 rfl (by rw [hN]; decide) (fun _ => rfl)) fun sum_1 =>
  (SB_let (L_iconst (v := 0) X dX7_many_2 (by decide)) (S_istore_n (ev := fun k_2 => [(3, .int k_2), (2, .int sum_1), (0, .long set_)]) X dX7_many_3 rfl (by rw [hN]; decide) (fun _ => rfl)) fun k_2 =>
  (SB_seq (ST_loop (σ := Int32 × Int32) (upd := (fun (s : Int32 × Int32) => [(3, .int s.2), (2, .int s.1), (0, .long set_)])) (s0 := (sum_1, k_2)) (n := 2000) (fun mm a b h => GG_sub [0, 1, 2] rfl h)
  (fun s3 => (CE_2 wI (L_iload_n (x := s3.2) 0 X dX7_many_4 rfl rfl) (L_bipush (v := (60)) X dX7_many_5 (by decide)) (C_lt_F X dX7_many_7 (by decide))))
  (fun s3 => (ST_post (ST_let (XE_2 wI (L_iload_n (x := s3.1) 1 X dX7_many_10 rfl rfl) (XE_tern (CE_1 (XE_2 (pB := pI) wL (L_lload_n (x := set_) 2 X dX7_many_11 rfl rfl) (L_iload_n (x := s3.2) 0 X dX7_many_12 rfl rfl) (fun v0 v1 st mm a b hd hc hs h => g_callS (st := st) X hT htr (M_X7_has v0 v1) lk_X7_has st_X7_has ml_X7_180 rfl (by rw [hR]; exact ⟨Nat.le_of_ble_eq_true rfl, Nat.le_of_ble_eq_true rfl⟩) (Nat.le_trans hd (by decide)) ⟨hc, hs⟩ dX7_many_13 h)) (Z_ne_F X dX7_many_16 (by decide))) (L_iconst (v := 1) X dX7_many_19 (by decide)) (S_goto X dX7_many_20 (by decide)) (L_iconst (v := 0) X dX7_many_23 (by decide))) (O_iadd X dX7_many_24)) (S_istore_n (ev := fun sum_12 => [(2, .int sum_12), (3, .int s3.2), (0, .long set_)]) X dX7_many_25 rfl (by rw [hN]; decide) (fun _ => rfl)) fun sum_12 =>
  (ST_pre (env' := [(3, .int (s3.2 + 1)), (2, .int sum_12), (0, .long set_)]) (S_iinc 1 X dX7_many_26 rfl rfl (by rw [hN]; decide) rfl)
  (ST_done (upd := (fun (s : Int32 × Int32) => [(3, .int s.2), (2, .int s.1), (0, .long set_)])) (s := (sum_12, (s3.2 + 1))) [0, 1, 2] rfl))) fun _ mm a b h => S_goto X dX7_many_29 (by decide) [] mm a b h))) fun s13 =>
  (SB_retI X C hr dX7_many_33 (L_iload_n (x := s13.1) 1 X dX7_many_32 rfl rfl))))) h (by rw [hR]; decide) (by rw [hR]; decide)
theorem dX7_datesOf_0 : decode cX7_datesOf 0 = .ok (.aload_n 0, 1) := by decide +kernel
theorem dX7_datesOf_1 : decode cX7_datesOf 1 = .ok (.iload_n 1, 1) := by decide +kernel
theorem dX7_datesOf_2 : decode cX7_datesOf 2 = .ok (.iload_n 2, 1) := by decide +kernel
theorem dX7_datesOf_3 : decode cX7_datesOf 3 = .ok (.invokevirtual 174, 3) := by decide +kernel
theorem dX7_datesOf_6 : decode cX7_datesOf 6 = .ok (.ifCond .eq 17, 3) := by decide +kernel
theorem dX7_datesOf_9 : decode cX7_datesOf 9 = .ok (.aload_n 0, 1) := by decide +kernel
theorem dX7_datesOf_10 : decode cX7_datesOf 10 = .ok (.getfield 75, 3) := by decide +kernel
theorem dX7_datesOf_13 : decode cX7_datesOf 13 = .ok (.aload_n 0, 1) := by decide +kernel
theorem dX7_datesOf_14 : decode cX7_datesOf 14 = .ok (.iload_n 1, 1) := by decide +kernel
theorem dX7_datesOf_15 : decode cX7_datesOf 15 = .ok (.iload_n 2, 1) := by decide +kernel
theorem dX7_datesOf_16 : decode cX7_datesOf 16 = .ok (.invokevirtual 323, 3) := by decide +kernel
theorem dX7_datesOf_19 : decode cX7_datesOf 19 = .ok (.laload, 1) := by decide +kernel
theorem dX7_datesOf_20 : decode cX7_datesOf 20 = .ok (.goto 4, 3) := by decide +kernel
theorem dX7_datesOf_23 : decode cX7_datesOf 23 = .ok (.lconst 0, 1) := by decide +kernel
theorem dX7_datesOf_24 : decode cX7_datesOf 24 = .ok (.lreturn, 1) := by decide +kernel
theorem lk_X7_datesOf : LK yX7_datesOf cX7_datesOf 3 (some .long) 2 := ⟨qW_at 1745 (by decide +kernel) rfl, qW_at 78 (by decide +kernel) rfl, by decide, by decide, by decide +kernel⟩
theorem im_X7_datesOf : Cond.instanceMethod yX7_datesOf ∈ qW := qW_at 1744 (by decide +kernel) rfl
theorem se_X7_datesOf : Cond.selects RX7 yX7_datesOf yX7_datesOf ∈ qW := qW_at 64 (by decide +kernel) rfl
def F_X7_datesOf (this : Nat) (person_ : Int32) (its_ : Int32) : QX Int64 :=
  (xb (xb (xb (xp (some this)) fun v1 => xb (xp person_) fun v2 => xb (xp its_) fun v3 => xo 8 v1 fun q => F_X7_isHere q v2 v3) fun v4 => xp (decide (¬ v4 = 0))) fun v11 => if v11 then (xb (xb (xp (some this)) fun v5 => xgr 8 23 v5) fun v9 => xb (xb (xp (some this)) fun v6 => xb (xp person_) fun v7 => xb (xp its_) fun v8 => xo 8 v6 fun q => F_X7_versionOf q v7 v8) fun v10 => xal v9 v10) else (xp (0 : Int64)))
set_option maxRecDepth 100000 in
set_option maxHeartbeats 4000000 in
theorem M_X7_datesOf (this : Nat) (person_ : Int32) (its_ : Int32) : MM yX7_datesOf cX7_datesOf 3 (some .long) 2 44 0 0 encL [.ref this, .int person_, .int its_] (F_X7_datesOf this person_ its_) := by
  refine MM_of (env0 := [(0, va_rf (some this)), (1, .int person_), (2, .int its_)]) (by decide) (by exact Nat.le_of_ble_eq_true rfl) (by rfl) (fun k mm res X C hR hN hr hname h => ?_)
  have X : CX k cX7_datesOf RX7 := X
  have hT : TH k (fun e m' => res = (.error e, m')) := TH_of C
  have htr := C.2.2.2.1
  unfold F_X7_datesOf at h
  exact SB_go (T := fun e m' => res = (.error e, m')) (RET := fun v m' => res = (.ok v, m')) (SB_retL X C hr dX7_datesOf_24 (XE_tern (CE_1 (XE_3 (pB := pI) wR wI (L_aload_n (r := (some this)) 0 X dX7_datesOf_0 rfl rfl) (L_iload_n (x := person_) 1 X dX7_datesOf_1 rfl rfl) (L_iload_n (x := its_) 2 X dX7_datesOf_2 rfl rfl) (fun v0 v1 v2 st mm a b hd hc hs h => g_callVo (st := st) (cI := 8) X hT htr rfl (fun q => M_X7_isHere q v1 v2) lk_X7_isHere im_X7_isHere se_X7_isHere ml_X7_174 rfl (by rw [hR]; exact ⟨Nat.le_of_ble_eq_true rfl, Nat.le_of_ble_eq_true rfl⟩) (Nat.le_trans hd (by decide)) ⟨hc, hs⟩ dX7_datesOf_3 h)) (Z_ne_F X dX7_datesOf_6 (by decide))) (XE_2 wR (XE_1 (L_aload_n (r := (some this)) 0 X dX7_datesOf_9 rfl rfl) (O_gr (c := 8) (j := 23) X rfl inW7 (by decide) fl_X7_75 rfl dX7_datesOf_10)) (XE_3 (pB := pI) wR wI (L_aload_n (r := (some this)) 0 X dX7_datesOf_13 rfl rfl) (L_iload_n (x := person_) 1 X dX7_datesOf_14 rfl rfl) (L_iload_n (x := its_) 2 X dX7_datesOf_15 rfl rfl) (fun v0 v1 v2 st mm a b hd hc hs h => g_callVo (st := st) (cI := 8) X hT htr rfl (fun q => M_X7_versionOf q v1 v2) lk_X7_versionOf im_X7_versionOf se_X7_versionOf ml_X7_323 rfl (by rw [hR]; exact ⟨Nat.le_of_ble_eq_true rfl, Nat.le_of_ble_eq_true rfl⟩) (Nat.le_trans hd (by decide)) ⟨hc, hs⟩ dX7_datesOf_16 h)) (O_al X dX7_datesOf_19)) (S_goto X dX7_datesOf_20 (by decide)) (L_lconst (v := 0) X dX7_datesOf_23 (by decide)))) h (by rw [hR]; decide) (by rw [hR]; decide)
theorem dX7_dates_0 : decode cX7_dates 0 = .ok (.aload_n 0, 1) := by decide +kernel
theorem dX7_dates_1 : decode cX7_dates 1 = .ok (.iload_n 1, 1) := by decide +kernel
theorem dX7_dates_2 : decode cX7_dates 2 = .ok (.iload_n 2, 1) := by decide +kernel
theorem dX7_dates_3 : decode cX7_dates 3 = .ok (.invokevirtual 320, 3) := by decide +kernel
theorem dX7_dates_6 : decode cX7_dates 6 = .ok (.ifCond .eq 15, 3) := by decide +kernel
theorem dX7_dates_9 : decode cX7_dates 9 = .ok (.aload_n 0, 1) := by decide +kernel
theorem dX7_dates_10 : decode cX7_dates 10 = .ok (.iload_n 1, 1) := by decide +kernel
theorem dX7_dates_11 : decode cX7_dates 11 = .ok (.iload_n 2, 1) := by decide +kernel
theorem dX7_dates_12 : decode cX7_dates 12 = .ok (.invokevirtual 326, 3) := by decide +kernel
theorem dX7_dates_15 : decode cX7_dates 15 = .ok (.invokestatic 330, 3) := by decide +kernel
theorem dX7_dates_18 : decode cX7_dates 18 = .ok (.goto 4, 3) := by decide +kernel
theorem dX7_dates_21 : decode cX7_dates 21 = .ok (.iconst 0, 1) := by decide +kernel
theorem dX7_dates_22 : decode cX7_dates 22 = .ok (.ireturn, 1) := by decide +kernel
theorem lk_X7_dates : LK yX7_dates cX7_dates 3 (some .int) 2 := ⟨qW_at 1741 (by decide +kernel) rfl, qW_at 78 (by decide +kernel) rfl, by decide, by decide, by decide +kernel⟩
theorem im_X7_dates : Cond.instanceMethod yX7_dates ∈ qW := qW_at 1739 (by decide +kernel) rfl
theorem se_X7_dates : Cond.selects RX7 yX7_dates yX7_dates ∈ qW := qW_at 1740 (by decide +kernel) rfl
def F_X7_dates (this : Nat) (person_ : Int32) (its_ : Int32) : QX Int32 :=
  (xb (xb (xb (xp (some this)) fun v1 => xb (xp person_) fun v2 => xb (xp its_) fun v3 => xo 8 v1 fun q => F_X7_asks q v2 v3) fun v4 => xp (decide (¬ v4 = 0))) fun v9 => if v9 then (xb (xb (xp (some this)) fun v5 => xb (xp person_) fun v6 => xb (xp its_) fun v7 => xo 8 v5 fun q => F_X7_datesOf q v6 v7) fun v8 => F_X7_many v8) else (xp (0 : Int32)))
set_option maxRecDepth 100000 in
set_option maxHeartbeats 4000000 in
theorem M_X7_dates (this : Nat) (person_ : Int32) (its_ : Int32) : MM yX7_dates cX7_dates 3 (some .int) 3 66 0 0 encI [.ref this, .int person_, .int its_] (F_X7_dates this person_ its_) := by
  refine MM_of (env0 := [(0, va_rf (some this)), (1, .int person_), (2, .int its_)]) (by decide) (by exact Nat.le_of_ble_eq_true rfl) (by rfl) (fun k mm res X C hR hN hr hname h => ?_)
  have X : CX k cX7_dates RX7 := X
  have hT : TH k (fun e m' => res = (.error e, m')) := TH_of C
  have htr := C.2.2.2.1
  unfold F_X7_dates at h
  exact SB_go (T := fun e m' => res = (.error e, m')) (RET := fun v m' => res = (.ok v, m')) (SB_retI X C hr dX7_dates_22 (XE_tern (CE_1 (XE_3 (pB := pI) wR wI (L_aload_n (r := (some this)) 0 X dX7_dates_0 rfl rfl) (L_iload_n (x := person_) 1 X dX7_dates_1 rfl rfl) (L_iload_n (x := its_) 2 X dX7_dates_2 rfl rfl) (fun v0 v1 v2 st mm a b hd hc hs h => g_callVo (st := st) (cI := 8) X hT htr rfl (fun q => M_X7_asks q v1 v2) lk_X7_asks im_X7_asks se_X7_asks ml_X7_320 rfl (by rw [hR]; exact ⟨Nat.le_of_ble_eq_true rfl, Nat.le_of_ble_eq_true rfl⟩) (Nat.le_trans hd (by decide)) ⟨hc, hs⟩ dX7_dates_3 h)) (Z_ne_F X dX7_dates_6 (by decide))) (XE_1 (pB := pI)  (XE_3 (pB := pL) wR wI (L_aload_n (r := (some this)) 0 X dX7_dates_9 rfl rfl) (L_iload_n (x := person_) 1 X dX7_dates_10 rfl rfl) (L_iload_n (x := its_) 2 X dX7_dates_11 rfl rfl) (fun v0 v1 v2 st mm a b hd hc hs h => g_callVo (st := st) (cI := 8) X hT htr rfl (fun q => M_X7_datesOf q v1 v2) lk_X7_datesOf im_X7_datesOf se_X7_datesOf ml_X7_326 rfl (by rw [hR]; exact ⟨Nat.le_of_ble_eq_true rfl, Nat.le_of_ble_eq_true rfl⟩) (Nat.le_trans hd (by decide)) ⟨hc, hs⟩ dX7_dates_12 h)) (fun v0 st mm a b hd hc hs h => g_callS (st := st) X hT htr (M_X7_many v0) lk_X7_many st_X7_many ml_X7_330 rfl (by rw [hR]; exact ⟨Nat.le_of_ble_eq_true rfl, Nat.le_of_ble_eq_true rfl⟩) (Nat.le_trans hd (by decide)) ⟨hc, hs⟩ dX7_dates_15 h)) (S_goto X dX7_dates_18 (by decide)) (L_iconst (v := 0) X dX7_dates_21 (by decide)))) h (by rw [hR]; decide) (by rw [hR]; decide)
theorem dX7_dateAt_0 : decode cX7_dateAt 0 = .ok (.iload_n 1, 1) := by decide +kernel
theorem dX7_dateAt_1 : decode cX7_dateAt 1 = .ok (.invokestatic 202, 3) := by decide +kernel
theorem dX7_dateAt_4 : decode cX7_dateAt 4 = .ok (.ifCond .eq 15, 3) := by decide +kernel
theorem dX7_dateAt_7 : decode cX7_dateAt 7 = .ok (.aload_n 0, 1) := by decide +kernel
theorem dX7_dateAt_8 : decode cX7_dateAt 8 = .ok (.iload_n 2, 1) := by decide +kernel
theorem dX7_dateAt_9 : decode cX7_dateAt 9 = .ok (.invokevirtual 211, 3) := by decide +kernel
theorem dX7_dateAt_12 : decode cX7_dateAt 12 = .ok (.ifCond .eq 7, 3) := by decide +kernel
theorem dX7_dateAt_15 : decode cX7_dateAt 15 = .ok (.iconst 1, 1) := by decide +kernel
theorem dX7_dateAt_16 : decode cX7_dateAt 16 = .ok (.goto 4, 3) := by decide +kernel
theorem dX7_dateAt_19 : decode cX7_dateAt 19 = .ok (.iconst 0, 1) := by decide +kernel
theorem dX7_dateAt_20 : decode cX7_dateAt 20 = .ok (.istore 4, 2) := by decide +kernel
theorem dX7_dateAt_22 : decode cX7_dateAt 22 = .ok (.iload 4, 2) := by decide +kernel
theorem dX7_dateAt_24 : decode cX7_dateAt 24 = .ok (.ifCond .eq 12, 3) := by decide +kernel
theorem dX7_dateAt_27 : decode cX7_dateAt 27 = .ok (.aload_n 0, 1) := by decide +kernel
theorem dX7_dateAt_28 : decode cX7_dateAt 28 = .ok (.iload_n 1, 1) := by decide +kernel
theorem dX7_dateAt_29 : decode cX7_dateAt 29 = .ok (.iload_n 2, 1) := by decide +kernel
theorem dX7_dateAt_30 : decode cX7_dateAt 30 = .ok (.invokevirtual 326, 3) := by decide +kernel
theorem dX7_dateAt_33 : decode cX7_dateAt 33 = .ok (.goto 4, 3) := by decide +kernel
theorem dX7_dateAt_36 : decode cX7_dateAt 36 = .ok (.lconst 0, 1) := by decide +kernel
theorem dX7_dateAt_37 : decode cX7_dateAt 37 = .ok (.lstore 5, 2) := by decide +kernel
theorem dX7_dateAt_39 : decode cX7_dateAt 39 = .ok (.aload_n 0, 1) := by decide +kernel
theorem dX7_dateAt_40 : decode cX7_dateAt 40 = .ok (.iload 4, 2) := by decide +kernel
theorem dX7_dateAt_42 : decode cX7_dateAt 42 = .ok (.ifCond .eq 22, 3) := by decide +kernel
theorem dX7_dateAt_45 : decode cX7_dateAt 45 = .ok (.iload_n 3, 1) := by decide +kernel
theorem dX7_dateAt_46 : decode cX7_dateAt 46 = .ok (.iconst 0, 1) := by decide +kernel
theorem dX7_dateAt_47 : decode cX7_dateAt 47 = .ok (.lload 5, 2) := by decide +kernel
theorem dX7_dateAt_49 : decode cX7_dateAt 49 = .ok (.invokestatic 330, 3) := by decide +kernel
theorem dX7_dateAt_52 : decode cX7_dateAt 52 = .ok (.iconst 1, 1) := by decide +kernel
theorem dX7_dateAt_53 : decode cX7_dateAt 53 = .ok (.isub, 1) := by decide +kernel
theorem dX7_dateAt_54 : decode cX7_dateAt 54 = .ok (.invokestatic 139, 3) := by decide +kernel
theorem dX7_dateAt_57 : decode cX7_dateAt 57 = .ok (.ifCond .eq 7, 3) := by decide +kernel
theorem dX7_dateAt_60 : decode cX7_dateAt 60 = .ok (.iconst 1, 1) := by decide +kernel
theorem dX7_dateAt_61 : decode cX7_dateAt 61 = .ok (.goto 4, 3) := by decide +kernel
theorem dX7_dateAt_64 : decode cX7_dateAt 64 = .ok (.iconst 0, 1) := by decide +kernel
theorem dX7_dateAt_65 : decode cX7_dateAt 65 = .ok (.iconst 1, 1) := by decide +kernel
theorem dX7_dateAt_66 : decode cX7_dateAt 66 = .ok (.iconst 1, 1) := by decide +kernel
theorem dX7_dateAt_67 : decode cX7_dateAt 67 = .ok (.invokevirtual 153, 3) := by decide +kernel
theorem dX7_dateAt_70 : decode cX7_dateAt 70 = .ok (.ifCond .ne 5, 3) := by decide +kernel
theorem dX7_dateAt_73 : decode cX7_dateAt 73 = .ok (.iconst 0, 1) := by decide +kernel
theorem dX7_dateAt_74 : decode cX7_dateAt 74 = .ok (.ireturn, 1) := by decide +kernel
theorem dX7_dateAt_75 : decode cX7_dateAt 75 = .ok (.iload_n 3, 1) := by decide +kernel
theorem dX7_dateAt_76 : decode cX7_dateAt 76 = .ok (.istore 7, 2) := by decide +kernel
theorem dX7_dateAt_78 : decode cX7_dateAt 78 = .ok (.iconst (-1), 1) := by decide +kernel
theorem dX7_dateAt_79 : decode cX7_dateAt 79 = .ok (.istore 8, 2) := by decide +kernel
theorem dX7_dateAt_81 : decode cX7_dateAt 81 = .ok (.iconst 0, 1) := by decide +kernel
theorem dX7_dateAt_82 : decode cX7_dateAt 82 = .ok (.istore 9, 2) := by decide +kernel
theorem dX7_dateAt_84 : decode cX7_dateAt 84 = .ok (.iload 9, 2) := by decide +kernel
theorem dX7_dateAt_86 : decode cX7_dateAt 86 = .ok (.bipush 60, 2) := by decide +kernel
theorem dX7_dateAt_88 : decode cX7_dateAt 88 = .ok (.if_icmp .ge 36, 3) := by decide +kernel
theorem dX7_dateAt_91 : decode cX7_dateAt 91 = .ok (.lload 5, 2) := by decide +kernel
theorem dX7_dateAt_93 : decode cX7_dateAt 93 = .ok (.iload 9, 2) := by decide +kernel
theorem dX7_dateAt_95 : decode cX7_dateAt 95 = .ok (.invokestatic 180, 3) := by decide +kernel
theorem dX7_dateAt_98 : decode cX7_dateAt 98 = .ok (.ifCond .eq 20, 3) := by decide +kernel
theorem dX7_dateAt_101 : decode cX7_dateAt 101 = .ok (.iload 7, 2) := by decide +kernel
theorem dX7_dateAt_103 : decode cX7_dateAt 103 = .ok (.ifCond .ne 8, 3) := by decide +kernel
theorem dX7_dateAt_106 : decode cX7_dateAt 106 = .ok (.iload 9, 2) := by decide +kernel
theorem dX7_dateAt_108 : decode cX7_dateAt 108 = .ok (.goto 5, 3) := by decide +kernel
theorem dX7_dateAt_111 : decode cX7_dateAt 111 = .ok (.iload 8, 2) := by decide +kernel
theorem dX7_dateAt_113 : decode cX7_dateAt 113 = .ok (.istore 8, 2) := by decide +kernel
theorem dX7_dateAt_115 : decode cX7_dateAt 115 = .ok (.iinc 7 (-1), 3) := by decide +kernel
theorem dX7_dateAt_118 : decode cX7_dateAt 118 = .ok (.iinc 9 1, 3) := by decide +kernel
theorem dX7_dateAt_121 : decode cX7_dateAt 121 = .ok (.goto (-37), 3) := by decide +kernel
theorem dX7_dateAt_124 : decode cX7_dateAt 124 = .ok (.iload 8, 2) := by decide +kernel
theorem dX7_dateAt_126 : decode cX7_dateAt 126 = .ok (.ireturn, 1) := by decide +kernel
theorem lk_X7_dateAt : LK yX7_dateAt cX7_dateAt 10 (some .int) 3 := ⟨qW_at 1752 (by decide +kernel) rfl, qW_at 78 (by decide +kernel) rfl, by decide, by decide, by decide +kernel⟩
theorem im_X7_dateAt : Cond.instanceMethod yX7_dateAt ∈ qW := qW_at 1750 (by decide +kernel) rfl
theorem se_X7_dateAt : Cond.selects RX7 yX7_dateAt yX7_dateAt ∈ qW := qW_at 1751 (by decide +kernel) rfl
def F_X7_dateAt (this : Nat) (person_ : Int32) (its_ : Int32) (place_ : Int32) : QX Int32 :=
  (xb (xb (xb (xb (xb (xp person_) fun v1 => F_X7_isPerson v1) fun v2 => xp (decide (¬ v2 = 0))) fun v6 => if v6 then (xb (xb (xp (some this)) fun v3 => xb (xp its_) fun v4 => xo 8 v3 fun q => F_X7_isMeeting q v4) fun v5 => xp (decide (¬ v5 = 0))) else xp false) fun v7 => xp (b2i v7)) fun is_8 =>
  (xb (xb (xb (xp is_8) fun v9 => xp (decide (¬ v9 = 0))) fun v13 => if v13 then (xb (xp (some this)) fun v10 => xb (xp person_) fun v11 => xb (xp its_) fun v12 => xo 8 v10 fun q => F_X7_datesOf q v11 v12) else (xp (0 : Int64))) fun set_14 =>
  (xb (xb (xb (xb (xp (some this)) fun v25 => xb (xb (xb (xb (xp is_8) fun v15 => xp (decide (¬ v15 = 0))) fun v23 => if v23 then (xb (xb (xp place_) fun v19 => xb (xp (0 : Int32)) fun v20 => xb (xb (xb (xp set_14) fun v16 => F_X7_many v16) fun v17 => xb (xp (1 : Int32)) fun v18 => (xp (v17 - v18))) fun v21 => F_X7_in v19 v20 v21) fun v22 => xp (decide (¬ v22 = 0))) else xp false) fun v24 => xp (b2i v24)) fun v26 => xb (xp (1 : Int32)) fun v27 => xb (xp (1 : Int32)) fun v28 => xo 8 v25 fun q => F_X7_goes q v26 v27 v28) fun v29 => xp (decide (¬ v29 = 0))) fun v30 => xp (!v30)) fun v46 => if v46 then (xp (0 : Int32)) else
  (xb (xp place_) fun left_31 =>
  (xb (xp (-1 : Int32)) fun found_32 =>
  (xb (xp (0 : Int32)) fun k_33 =>
  (xb (xl 2000 (fun (s34 : Int32 × Int32 × Int32) => (xb (xp s34.2.2) fun v35 => xb (xp (60 : Int32)) fun v36 => xp (decide (v35 < v36)))) (fun (s34 : Int32 × Int32 × Int32) =>
  (xb (xb (xb (xb (xp set_14) fun v37 => xb (xp s34.2.2) fun v38 => F_X7_has v37 v38) fun v39 => xp (decide (¬ v39 = 0))) fun v43 => if v43 then (xb (xb (xb (xp s34.2.1) fun v40 => xp (decide (v40 = 0))) fun v41 => if v41 then (xp s34.2.2) else (xp s34.1)) fun found_42 =>
  (xp (found_42, (s34.2.1 + (-1))))) else (xp (s34.1, s34.2.1))) fun s44 =>
  (xp (s44.1, s44.2, (s34.2.2 + 1))))) (found_32, left_31, k_33)) fun s45 =>
  (xp s45.1))))))))
set_option maxRecDepth 100000 in
set_option maxHeartbeats 4000000 in
theorem M_X7_dateAt (this : Nat) (person_ : Int32) (its_ : Int32) (place_ : Int32) : MM yX7_dateAt cX7_dateAt 10 (some .int) 3 66 0 0 encI [.ref this, .int person_, .int its_, .int place_] (F_X7_dateAt this person_ its_ place_) := by
  refine MM_of (env0 := [(0, va_rf (some this)), (1, .int person_), (2, .int its_), (3, .int place_)]) (by decide) (by exact Nat.le_of_ble_eq_true rfl) (by rfl) (fun k mm res X C hR hN hr hname h => ?_)
  have X : CX k cX7_dateAt RX7 := X
  have hT : TH k (fun e m' => res = (.error e, m')) := TH_of C
  have htr := C.2.2.2.1
  unfold F_X7_dateAt at h
  exact SB_go (T := fun e m' => res = (.error e, m')) (RET := fun v m' => res = (.ok v, m')) (SB_let (XE_b2i (CE_and (CE_1 (XE_1 (pB := pI)  (L_iload_n (x := person_) 1 X dX7_dateAt_0 rfl rfl) (fun v0 st mm a b hd hc hs h => g_callS (st := st) X hT htr (M_X7_isPerson v0) lk_X7_isPerson st_X7_isPerson ml_X7_202 rfl (by rw [hR]; exact ⟨Nat.le_of_ble_eq_true rfl, Nat.le_of_ble_eq_true rfl⟩) (Nat.le_trans hd (by decide)) ⟨hc, hs⟩ dX7_dateAt_1 h)) (Z_ne_F X dX7_dateAt_4 (by decide))) (CE_1 (XE_2 (pB := pI) wR (L_aload_n (r := (some this)) 0 X dX7_dateAt_7 rfl rfl) (L_iload_n (x := its_) 2 X dX7_dateAt_8 rfl rfl) (fun v0 v1 st mm a b hd hc hs h => g_callVo (st := st) (cI := 8) X hT htr rfl (fun q => M_X7_isMeeting q v1) lk_X7_isMeeting im_X7_isMeeting se_X7_isMeeting ml_X7_211 rfl (by rw [hR]; exact ⟨Nat.le_of_ble_eq_true rfl, Nat.le_of_ble_eq_true rfl⟩) (Nat.le_trans hd (by decide)) ⟨hc, hs⟩ dX7_dateAt_9 h)) (Z_ne_F X dX7_dateAt_12 (by decide)))) (S_b1 X dX7_dateAt_15 dX7_dateAt_16 (by decide)) (S_b0 X dX7_dateAt_19)) (S_istore (ev := fun is_8 => [(4, .int is_8), (0, va_rf (some this)), (1, .int person_), (2, .int its_), (3, .int place_)]) X dX7_dateAt_20 (by rw [hN]; decide) (fun _ => rfl)) fun is_8 =>
  (SB_let (XE_tern (CE_1 (L_iload (x := is_8) 0 X dX7_dateAt_22 rfl) (Z_ne_F X dX7_dateAt_24 (by decide))) (XE_3 (pB := pL) wR wI (L_aload_n (r := (some this)) 1 X dX7_dateAt_27 rfl rfl) (L_iload_n (x := person_) 2 X dX7_dateAt_28 rfl rfl) (L_iload_n (x := its_) 3 X dX7_dateAt_29 rfl rfl) (fun v0 v1 v2 st mm a b hd hc hs h => g_callVo (st := st) (cI := 8) X hT htr rfl (fun q => M_X7_datesOf q v1 v2) lk_X7_datesOf im_X7_datesOf se_X7_datesOf ml_X7_326 rfl (by rw [hR]; exact ⟨Nat.le_of_ble_eq_true rfl, Nat.le_of_ble_eq_true rfl⟩) (Nat.le_trans hd (by decide)) ⟨hc, hs⟩ dX7_dateAt_30 h)) (S_goto X dX7_dateAt_33 (by decide)) (L_lconst (v := 0) X dX7_dateAt_36 (by decide))) (S_lstore (ev := fun set_14 => [(5, .long set_14), (4, .int is_8), (0, va_rf (some this)), (1, .int person_), (2, .int its_), (3, .int place_)]) X dX7_dateAt_37 (by rw [hN]; decide) (fun _ => rfl)) fun set_14 =>
  (SB_if (CE_not (CE_1 (XE_4 (pB := pI) wR wI wI (L_aload_n (r := (some this)) 2 X dX7_dateAt_39 rfl rfl) (XE_b2i (CE_and (CE_1 (L_iload (x := is_8) 1 X dX7_dateAt_40 rfl) (Z_ne_F X dX7_dateAt_42 (by decide))) (CE_1 (XE_3 (pB := pI) wI wI (L_iload_n (x := place_) 5 X dX7_dateAt_45 rfl rfl) (L_iconst (v := 0) X dX7_dateAt_46 (by decide)) (XE_2 wI (XE_1 (pB := pI)  (L_lload (x := set_14) 0 X dX7_dateAt_47 rfl) (fun v0 st mm a b hd hc hs h => g_callS (st := st) X hT htr (M_X7_many v0) lk_X7_many st_X7_many ml_X7_330 rfl (by rw [hR]; exact ⟨Nat.le_of_ble_eq_true rfl, Nat.le_of_ble_eq_true rfl⟩) (Nat.le_trans hd (by decide)) ⟨hc, hs⟩ dX7_dateAt_49 h)) (L_iconst (v := 1) X dX7_dateAt_52 (by decide)) (O_isub X dX7_dateAt_53)) (fun v0 v1 v2 st mm a b hd hc hs h => g_callS (st := st) X hT htr (M_X7_in v0 v1 v2) lk_X7_in st_X7_in ml_X7_139 rfl (by rw [hR]; exact ⟨Nat.le_of_ble_eq_true rfl, Nat.le_of_ble_eq_true rfl⟩) (Nat.le_trans hd (by decide)) ⟨hc, hs⟩ dX7_dateAt_54 h)) (Z_ne_F X dX7_dateAt_57 (by decide)))) (S_b1 X dX7_dateAt_60 dX7_dateAt_61 (by decide)) (S_b0 X dX7_dateAt_64)) (L_iconst (v := 1) X dX7_dateAt_65 (by decide)) (L_iconst (v := 1) X dX7_dateAt_66 (by decide)) (fun v0 v1 v2 v3 st mm a b hd hc hs h => g_callVo (st := st) (cI := 8) X hT htr rfl (fun q => M_X7_goes q v1 v2 v3) lk_X7_goes im_X7_goes se_X7_goes ml_X7_153 rfl (by rw [hR]; exact ⟨Nat.le_of_ble_eq_true rfl, Nat.le_of_ble_eq_true rfl⟩) (Nat.le_trans hd (by decide)) ⟨hc, hs⟩ dX7_dateAt_67 h)) (Z_ne_T X dX7_dateAt_70 (by decide))))
  (SB_retI X C hr dX7_dateAt_74 (L_iconst (v := 0) X dX7_dateAt_73 (by decide)))
  (SB_let (L_iload_n (x := place_) 5 X dX7_dateAt_75 rfl rfl) (S_istore (ev := fun left_31 => [(7, .int left_31), (5, .long set_14), (4, .int is_8), (0, va_rf (some this)), (1, .int person_), (2, .int its_), (3, .int place_)]) X dX7_dateAt_76 (by rw [hN]; decide) (fun _ => rfl)) fun left_31 =>
  (SB_let (L_iconst (v := (-1)) X dX7_dateAt_78 (by decide)) (S_istore (ev := fun found_32 => [(8, .int found_32), (7, .int left_31), (5, .long set_14), (4, .int is_8), (0, va_rf (some this)), (1, .int person_), (2, .int its_), (3, .int place_)]) X dX7_dateAt_79 (by rw [hN]; decide) (fun _ => rfl)) fun found_32 =>
  (SB_let (L_iconst (v := 0) X dX7_dateAt_81 (by decide)) (S_istore (ev := fun k_33 => [(9, .int k_33), (8, .int found_32), (7, .int left_31), (5, .long set_14), (4, .int is_8), (0, va_rf (some this)), (1, .int person_), (2, .int its_), (3, .int place_)]) X dX7_dateAt_82 (by rw [hN]; decide) (fun _ => rfl)) fun k_33 =>
  (SB_seq (ST_loop (σ := Int32 × Int32 × Int32) (upd := (fun (s : Int32 × Int32 × Int32) => [(9, .int s.2.2), (8, .int s.1), (7, .int s.2.1), (5, .long set_14), (4, .int is_8), (0, va_rf (some this)), (1, .int person_), (2, .int its_), (3, .int place_)])) (s0 := (found_32, left_31, k_33)) (n := 2000) (fun mm a b h => GG_sub [0, 1, 2, 3, 4, 5, 6, 7, 8] rfl h)
  (fun s34 => (CE_2 wI (L_iload (x := s34.2.2) 0 X dX7_dateAt_84 rfl) (L_bipush (v := (60)) X dX7_dateAt_86 (by decide)) (C_lt_F X dX7_dateAt_88 (by decide))))
  (fun s34 => (ST_post (ST_seq (ST_if (CE_1 (XE_2 (pB := pI) wL (L_lload (x := set_14) 3 X dX7_dateAt_91 rfl) (L_iload (x := s34.2.2) 0 X dX7_dateAt_93 rfl) (fun v0 v1 st mm a b hd hc hs h => g_callS (st := st) X hT htr (M_X7_has v0 v1) lk_X7_has st_X7_has ml_X7_180 rfl (by rw [hR]; exact ⟨Nat.le_of_ble_eq_true rfl, Nat.le_of_ble_eq_true rfl⟩) (Nat.le_trans hd (by decide)) ⟨hc, hs⟩ dX7_dateAt_95 h)) (Z_ne_F X dX7_dateAt_98 (by decide)))
  (ST_let (XE_tern (CE_1 (L_iload (x := s34.2.1) 2 X dX7_dateAt_101 rfl) (Z_eq_F X dX7_dateAt_103 (by decide))) (L_iload (x := s34.2.2) 0 X dX7_dateAt_106 rfl) (S_goto X dX7_dateAt_108 (by decide)) (L_iload (x := s34.1) 1 X dX7_dateAt_111 rfl)) (S_istore (ev := fun found_42 => [(8, .int found_42), (9, .int s34.2.2), (7, .int s34.2.1), (5, .long set_14), (4, .int is_8), (0, va_rf (some this)), (1, .int person_), (2, .int its_), (3, .int place_)]) X dX7_dateAt_113 (by rw [hN]; decide) (fun _ => rfl)) fun found_42 =>
  (ST_pre (env' := [(7, .int (s34.2.1 + (-1))), (8, .int found_42), (9, .int s34.2.2), (5, .long set_14), (4, .int is_8), (0, va_rf (some this)), (1, .int person_), (2, .int its_), (3, .int place_)]) (S_iinc 2 X dX7_dateAt_115 rfl rfl (by rw [hN]; decide) rfl)
  (ST_done (upd := (fun (s : Int32 × Int32) => [(9, .int s34.2.2), (8, .int s.1), (7, .int s.2), (5, .long set_14), (4, .int is_8), (0, va_rf (some this)), (1, .int person_), (2, .int its_), (3, .int place_)])) (s := (found_42, (s34.2.1 + (-1)))) [2, 1, 0, 3, 4, 5, 6, 7, 8] rfl)))
  (ST_done (upd := (fun (s : Int32 × Int32) => [(9, .int s34.2.2), (8, .int s.1), (7, .int s.2), (5, .long set_14), (4, .int is_8), (0, va_rf (some this)), (1, .int person_), (2, .int its_), (3, .int place_)])) (s := (s34.1, s34.2.1)) [0, 1, 2, 3, 4, 5, 6, 7, 8] rfl)) fun s44 =>
  (ST_pre (env' := [(9, .int (s34.2.2 + 1)), (8, .int s44.1), (7, .int s44.2), (5, .long set_14), (4, .int is_8), (0, va_rf (some this)), (1, .int person_), (2, .int its_), (3, .int place_)]) (S_iinc 0 X dX7_dateAt_118 rfl rfl (by rw [hN]; decide) rfl)
  (ST_done (upd := (fun (s : Int32 × Int32 × Int32) => [(9, .int s.2.2), (8, .int s.1), (7, .int s.2.1), (5, .long set_14), (4, .int is_8), (0, va_rf (some this)), (1, .int person_), (2, .int its_), (3, .int place_)])) (s := (s44.1, s44.2, (s34.2.2 + 1))) [0, 1, 2, 3, 4, 5, 6, 7, 8] rfl))) fun _ mm a b h => S_goto X dX7_dateAt_121 (by decide) [] mm a b h))) fun s45 =>
  (SB_retI X C hr dX7_dateAt_126 (L_iload (x := s45.1) 1 X dX7_dateAt_124 rfl))))))))) h (by rw [hR]; decide) (by rw [hR]; decide)
theorem dX7_beginOf_0 : decode cX7_beginOf 0 = .ok (.aload_n 0, 1) := by decide +kernel
theorem dX7_beginOf_1 : decode cX7_beginOf 1 = .ok (.aload_n 0, 1) := by decide +kernel
theorem dX7_beginOf_2 : decode cX7_beginOf 2 = .ok (.getfield 35, 3) := by decide +kernel
theorem dX7_beginOf_5 : decode cX7_beginOf 5 = .ok (.iload_n 1, 1) := by decide +kernel
theorem dX7_beginOf_6 : decode cX7_beginOf 6 = .ok (.iaload, 1) := by decide +kernel
theorem dX7_beginOf_7 : decode cX7_beginOf 7 = .ok (.aload_n 0, 1) := by decide +kernel
theorem dX7_beginOf_8 : decode cX7_beginOf 8 = .ok (.getfield 72, 3) := by decide +kernel
theorem dX7_beginOf_11 : decode cX7_beginOf 11 = .ok (.iload_n 1, 1) := by decide +kernel
theorem dX7_beginOf_12 : decode cX7_beginOf 12 = .ok (.laload, 1) := by decide +kernel
theorem dX7_beginOf_13 : decode cX7_beginOf 13 = .ok (.iload_n 2, 1) := by decide +kernel
theorem dX7_beginOf_14 : decode cX7_beginOf 14 = .ok (.invokestatic 180, 3) := by decide +kernel
theorem dX7_beginOf_17 : decode cX7_beginOf 17 = .ok (.ifCond .eq 12, 3) := by decide +kernel
theorem dX7_beginOf_20 : decode cX7_beginOf 20 = .ok (.aload_n 0, 1) := by decide +kernel
theorem dX7_beginOf_21 : decode cX7_beginOf 21 = .ok (.iload_n 1, 1) := by decide +kernel
theorem dX7_beginOf_22 : decode cX7_beginOf 22 = .ok (.iload_n 2, 1) := by decide +kernel
theorem dX7_beginOf_23 : decode cX7_beginOf 23 = .ok (.invokevirtual 195, 3) := by decide +kernel
theorem dX7_beginOf_26 : decode cX7_beginOf 26 = .ok (.goto 14, 3) := by decide +kernel
theorem dX7_beginOf_29 : decode cX7_beginOf 29 = .ok (.bipush 24, 2) := by decide +kernel
theorem dX7_beginOf_31 : decode cX7_beginOf 31 = .ok (.iload_n 2, 1) := by decide +kernel
theorem dX7_beginOf_32 : decode cX7_beginOf 32 = .ok (.imul, 1) := by decide +kernel
theorem dX7_beginOf_33 : decode cX7_beginOf 33 = .ok (.aload_n 0, 1) := by decide +kernel
theorem dX7_beginOf_34 : decode cX7_beginOf 34 = .ok (.getfield 41, 3) := by decide +kernel
theorem dX7_beginOf_37 : decode cX7_beginOf 37 = .ok (.iload_n 1, 1) := by decide +kernel
theorem dX7_beginOf_38 : decode cX7_beginOf 38 = .ok (.iaload, 1) := by decide +kernel
theorem dX7_beginOf_39 : decode cX7_beginOf 39 = .ok (.iadd, 1) := by decide +kernel
theorem dX7_beginOf_40 : decode cX7_beginOf 40 = .ok (.invokevirtual 164, 3) := by decide +kernel
theorem dX7_beginOf_43 : decode cX7_beginOf 43 = .ok (.ireturn, 1) := by decide +kernel
theorem lk_X7_beginOf : LK yX7_beginOf cX7_beginOf 3 (some .int) 2 := ⟨qW_at 1764 (by decide +kernel) rfl, qW_at 78 (by decide +kernel) rfl, by decide, by decide, by decide +kernel⟩
theorem im_X7_beginOf : Cond.instanceMethod yX7_beginOf ∈ qW := qW_at 1763 (by decide +kernel) rfl
theorem se_X7_beginOf : Cond.selects RX7 yX7_beginOf yX7_beginOf ∈ qW := qW_at 66 (by decide +kernel) rfl
def F_X7_beginOf (this : Nat) (by_ : Int32) (when_ : Int32) : QX Int32 :=
  (xb (xp (some this)) fun v21 => xb (xb (xb (xp (some this)) fun v1 => xgr 8 10 v1) fun v2 => xb (xp by_) fun v3 => xai 0 v2 v3) fun v22 => xb (xb (xb (xb (xb (xb (xp (some this)) fun v4 => xgr 8 22 v4) fun v5 => xb (xp by_) fun v6 => xal v5 v6) fun v7 => xb (xp when_) fun v8 => F_X7_has v7 v8) fun v9 => xp (decide (¬ v9 = 0))) fun v20 => if v20 then (xb (xp (some this)) fun v10 => xb (xp by_) fun v11 => xb (xp when_) fun v12 => xo 8 v10 fun q => F_X7_goal q v11 v12) else (xb (xb (xp (24 : Int32)) fun v13 => xb (xp when_) fun v14 => (xp (v13 * v14))) fun v18 => xb (xb (xb (xp (some this)) fun v15 => xgr 8 12 v15) fun v16 => xb (xp by_) fun v17 => xai 0 v16 v17) fun v19 => (xp (v18 + v19)))) fun v23 => xo 8 v21 fun q => F_X7_commonOf q v22 v23)
set_option maxRecDepth 100000 in
set_option maxHeartbeats 4000000 in
theorem M_X7_beginOf (this : Nat) (by_ : Int32) (when_ : Int32) : MM yX7_beginOf cX7_beginOf 3 (some .int) 3 68 0 0 encI [.ref this, .int by_, .int when_] (F_X7_beginOf this by_ when_) := by
  refine MM_of (env0 := [(0, va_rf (some this)), (1, .int by_), (2, .int when_)]) (by decide) (by exact Nat.le_of_ble_eq_true rfl) (by rfl) (fun k mm res X C hR hN hr hname h => ?_)
  have X : CX k cX7_beginOf RX7 := X
  have hT : TH k (fun e m' => res = (.error e, m')) := TH_of C
  have htr := C.2.2.2.1
  unfold F_X7_beginOf at h
  exact SB_go (T := fun e m' => res = (.error e, m')) (RET := fun v m' => res = (.ok v, m')) (SB_retI X C hr dX7_beginOf_43 (XE_3 (pB := pI) wR wI (L_aload_n (r := (some this)) 0 X dX7_beginOf_0 rfl rfl) (XE_2 wR (XE_1 (L_aload_n (r := (some this)) 0 X dX7_beginOf_1 rfl rfl) (O_gr (c := 8) (j := 10) X rfl inW7 (by decide) fl_X7_35 rfl dX7_beginOf_2)) (L_iload_n (x := by_) 1 X dX7_beginOf_5 rfl rfl) (O_ai X dX7_beginOf_6)) (XE_tern (CE_1 (XE_2 (pB := pI) wL (XE_2 wR (XE_1 (L_aload_n (r := (some this)) 0 X dX7_beginOf_7 rfl rfl) (O_gr (c := 8) (j := 22) X rfl inW7 (by decide) fl_X7_72 rfl dX7_beginOf_8)) (L_iload_n (x := by_) 1 X dX7_beginOf_11 rfl rfl) (O_al X dX7_beginOf_12)) (L_iload_n (x := when_) 2 X dX7_beginOf_13 rfl rfl) (fun v0 v1 st mm a b hd hc hs h => g_callS (st := st) X hT htr (M_X7_has v0 v1) lk_X7_has st_X7_has ml_X7_180 rfl (by rw [hR]; exact ⟨Nat.le_of_ble_eq_true rfl, Nat.le_of_ble_eq_true rfl⟩) (Nat.le_trans hd (by decide)) ⟨hc, hs⟩ dX7_beginOf_14 h)) (Z_ne_F X dX7_beginOf_17 (by decide))) (XE_3 (pB := pI) wR wI (L_aload_n (r := (some this)) 0 X dX7_beginOf_20 rfl rfl) (L_iload_n (x := by_) 1 X dX7_beginOf_21 rfl rfl) (L_iload_n (x := when_) 2 X dX7_beginOf_22 rfl rfl) (fun v0 v1 v2 st mm a b hd hc hs h => g_callVo (st := st) (cI := 8) X hT htr rfl (fun q => M_X7_goal q v1 v2) lk_X7_goal im_X7_goal se_X7_goal ml_X7_195 rfl (by rw [hR]; exact ⟨Nat.le_of_ble_eq_true rfl, Nat.le_of_ble_eq_true rfl⟩) (Nat.le_trans hd (by decide)) ⟨hc, hs⟩ dX7_beginOf_23 h)) (S_goto X dX7_beginOf_26 (by decide)) (XE_2 wI (XE_2 wI (L_bipush (v := (24)) X dX7_beginOf_29 (by decide)) (L_iload_n (x := when_) 2 X dX7_beginOf_31 rfl rfl) (O_imul X dX7_beginOf_32)) (XE_2 wR (XE_1 (L_aload_n (r := (some this)) 0 X dX7_beginOf_33 rfl rfl) (O_gr (c := 8) (j := 12) X rfl inW7 (by decide) fl_X7_41 rfl dX7_beginOf_34)) (L_iload_n (x := by_) 1 X dX7_beginOf_37 rfl rfl) (O_ai X dX7_beginOf_38)) (O_iadd X dX7_beginOf_39))) (fun v0 v1 v2 st mm a b hd hc hs h => g_callVo (st := st) (cI := 8) X hT htr rfl (fun q => M_X7_commonOf q v1 v2) lk_X7_commonOf im_X7_commonOf se_X7_commonOf ml_X7_164 rfl (by rw [hR]; exact ⟨Nat.le_of_ble_eq_true rfl, Nat.le_of_ble_eq_true rfl⟩) (Nat.le_trans hd (by decide)) ⟨hc, hs⟩ dX7_beginOf_40 h))) h (by rw [hR]; decide) (by rw [hR]; decide)
theorem dX7_asksDate_0 : decode cX7_asksDate 0 = .ok (.iload_n 1, 1) := by decide +kernel
theorem dX7_asksDate_1 : decode cX7_asksDate 1 = .ok (.invokestatic 202, 3) := by decide +kernel
theorem dX7_asksDate_4 : decode cX7_asksDate 4 = .ok (.ifCond .eq 15, 3) := by decide +kernel
theorem dX7_asksDate_7 : decode cX7_asksDate 7 = .ok (.aload_n 0, 1) := by decide +kernel
theorem dX7_asksDate_8 : decode cX7_asksDate 8 = .ok (.iload_n 2, 1) := by decide +kernel
theorem dX7_asksDate_9 : decode cX7_asksDate 9 = .ok (.invokevirtual 211, 3) := by decide +kernel
theorem dX7_asksDate_12 : decode cX7_asksDate 12 = .ok (.ifCond .eq 7, 3) := by decide +kernel
theorem dX7_asksDate_15 : decode cX7_asksDate 15 = .ok (.iconst 1, 1) := by decide +kernel
theorem dX7_asksDate_16 : decode cX7_asksDate 16 = .ok (.goto 4, 3) := by decide +kernel
theorem dX7_asksDate_19 : decode cX7_asksDate 19 = .ok (.iconst 0, 1) := by decide +kernel
theorem dX7_asksDate_20 : decode cX7_asksDate 20 = .ok (.istore 4, 2) := by decide +kernel
theorem dX7_asksDate_22 : decode cX7_asksDate 22 = .ok (.aload_n 0, 1) := by decide +kernel
theorem dX7_asksDate_23 : decode cX7_asksDate 23 = .ok (.iload 4, 2) := by decide +kernel
theorem dX7_asksDate_25 : decode cX7_asksDate 25 = .ok (.iload_n 3, 1) := by decide +kernel
theorem dX7_asksDate_26 : decode cX7_asksDate 26 = .ok (.invokestatic 157, 3) := by decide +kernel
theorem dX7_asksDate_29 : decode cX7_asksDate 29 = .ok (.iload 4, 2) := by decide +kernel
theorem dX7_asksDate_31 : decode cX7_asksDate 31 = .ok (.ifCond .eq 27, 3) := by decide +kernel
theorem dX7_asksDate_34 : decode cX7_asksDate 34 = .ok (.iload_n 3, 1) := by decide +kernel
theorem dX7_asksDate_35 : decode cX7_asksDate 35 = .ok (.invokestatic 157, 3) := by decide +kernel
theorem dX7_asksDate_38 : decode cX7_asksDate 38 = .ok (.ifCond .eq 20, 3) := by decide +kernel
theorem dX7_asksDate_41 : decode cX7_asksDate 41 = .ok (.aload_n 0, 1) := by decide +kernel
theorem dX7_asksDate_42 : decode cX7_asksDate 42 = .ok (.iload_n 1, 1) := by decide +kernel
theorem dX7_asksDate_43 : decode cX7_asksDate 43 = .ok (.iload_n 2, 1) := by decide +kernel
theorem dX7_asksDate_44 : decode cX7_asksDate 44 = .ok (.invokevirtual 326, 3) := by decide +kernel
theorem dX7_asksDate_47 : decode cX7_asksDate 47 = .ok (.iload_n 3, 1) := by decide +kernel
theorem dX7_asksDate_48 : decode cX7_asksDate 48 = .ok (.invokestatic 180, 3) := by decide +kernel
theorem dX7_asksDate_51 : decode cX7_asksDate 51 = .ok (.ifCond .eq 7, 3) := by decide +kernel
theorem dX7_asksDate_54 : decode cX7_asksDate 54 = .ok (.iconst 1, 1) := by decide +kernel
theorem dX7_asksDate_55 : decode cX7_asksDate 55 = .ok (.goto 4, 3) := by decide +kernel
theorem dX7_asksDate_58 : decode cX7_asksDate 58 = .ok (.iconst 0, 1) := by decide +kernel
theorem dX7_asksDate_59 : decode cX7_asksDate 59 = .ok (.invokevirtual 153, 3) := by decide +kernel
theorem dX7_asksDate_62 : decode cX7_asksDate 62 = .ok (.ireturn, 1) := by decide +kernel
theorem lk_X7_asksDate : LK yX7_asksDate cX7_asksDate 5 (some .boolean) 3 := ⟨qW_at 1760 (by decide +kernel) rfl, qW_at 78 (by decide +kernel) rfl, by decide, by decide, by decide +kernel⟩
theorem im_X7_asksDate : Cond.instanceMethod yX7_asksDate ∈ qW := qW_at 1759 (by decide +kernel) rfl
theorem se_X7_asksDate : Cond.selects RX7 yX7_asksDate yX7_asksDate ∈ qW := qW_at 65 (by decide +kernel) rfl
def F_X7_asksDate (this : Nat) (person_ : Int32) (its_ : Int32) (when_ : Int32) : QX Int32 :=
  (xb (xb (xb (xb (xb (xp person_) fun v1 => F_X7_isPerson v1) fun v2 => xp (decide (¬ v2 = 0))) fun v6 => if v6 then (xb (xb (xp (some this)) fun v3 => xb (xp its_) fun v4 => xo 8 v3 fun q => F_X7_isMeeting q v4) fun v5 => xp (decide (¬ v5 = 0))) else xp false) fun v7 => xp (b2i v7)) fun is_8 =>
  (xb (xb (xp (some this)) fun v22 => xb (xp is_8) fun v23 => xb (xb (xp when_) fun v9 => F_X7_isDay v9) fun v24 => xb (xb (xb (xb (xb (xp is_8) fun v10 => xp (decide (¬ v10 = 0))) fun v13 => if v13 then (xb (xb (xp when_) fun v11 => F_X7_isDay v11) fun v12 => xp (decide (¬ v12 = 0))) else xp false) fun v20 => if v20 then (xb (xb (xb (xp (some this)) fun v14 => xb (xp person_) fun v15 => xb (xp its_) fun v16 => xo 8 v14 fun q => F_X7_datesOf q v15 v16) fun v17 => xb (xp when_) fun v18 => F_X7_has v17 v18) fun v19 => xp (decide (¬ v19 = 0))) else xp false) fun v21 => xp (b2i v21)) fun v25 => xo 8 v22 fun q => F_X7_goes q v23 v24 v25) xz))
set_option maxRecDepth 100000 in
set_option maxHeartbeats 4000000 in
theorem M_X7_asksDate (this : Nat) (person_ : Int32) (its_ : Int32) (when_ : Int32) : MM yX7_asksDate cX7_asksDate 5 (some .boolean) 3 66 0 0 encI [.ref this, .int person_, .int its_, .int when_] (F_X7_asksDate this person_ its_ when_) := by
  refine MM_of (env0 := [(0, va_rf (some this)), (1, .int person_), (2, .int its_), (3, .int when_)]) (by decide) (by exact Nat.le_of_ble_eq_true rfl) (by rfl) (fun k mm res X C hR hN hr hname h => ?_)
  have X : CX k cX7_asksDate RX7 := X
  have hT : TH k (fun e m' => res = (.error e, m')) := TH_of C
  have htr := C.2.2.2.1
  unfold F_X7_asksDate at h
  exact SB_go (T := fun e m' => res = (.error e, m')) (RET := fun v m' => res = (.ok v, m')) (SB_let (XE_b2i (CE_and (CE_1 (XE_1 (pB := pI)  (L_iload_n (x := person_) 1 X dX7_asksDate_0 rfl rfl) (fun v0 st mm a b hd hc hs h => g_callS (st := st) X hT htr (M_X7_isPerson v0) lk_X7_isPerson st_X7_isPerson ml_X7_202 rfl (by rw [hR]; exact ⟨Nat.le_of_ble_eq_true rfl, Nat.le_of_ble_eq_true rfl⟩) (Nat.le_trans hd (by decide)) ⟨hc, hs⟩ dX7_asksDate_1 h)) (Z_ne_F X dX7_asksDate_4 (by decide))) (CE_1 (XE_2 (pB := pI) wR (L_aload_n (r := (some this)) 0 X dX7_asksDate_7 rfl rfl) (L_iload_n (x := its_) 2 X dX7_asksDate_8 rfl rfl) (fun v0 v1 st mm a b hd hc hs h => g_callVo (st := st) (cI := 8) X hT htr rfl (fun q => M_X7_isMeeting q v1) lk_X7_isMeeting im_X7_isMeeting se_X7_isMeeting ml_X7_211 rfl (by rw [hR]; exact ⟨Nat.le_of_ble_eq_true rfl, Nat.le_of_ble_eq_true rfl⟩) (Nat.le_trans hd (by decide)) ⟨hc, hs⟩ dX7_asksDate_9 h)) (Z_ne_F X dX7_asksDate_12 (by decide)))) (S_b1 X dX7_asksDate_15 dX7_asksDate_16 (by decide)) (S_b0 X dX7_asksDate_19)) (S_istore (ev := fun is_8 => [(4, .int is_8), (0, va_rf (some this)), (1, .int person_), (2, .int its_), (3, .int when_)]) X dX7_asksDate_20 (by rw [hN]; decide) (fun _ => rfl)) fun is_8 =>
  (SB_retZ X C hr dX7_asksDate_62 (XE_4 (pB := pI) wR wI wI (L_aload_n (r := (some this)) 1 X dX7_asksDate_22 rfl rfl) (L_iload (x := is_8) 0 X dX7_asksDate_23 rfl) (XE_1 (pB := pI)  (L_iload_n (x := when_) 4 X dX7_asksDate_25 rfl rfl) (fun v0 st mm a b hd hc hs h => g_callS (st := st) X hT htr (M_X7_isDay v0) lk_X7_isDay st_X7_isDay ml_X7_157 rfl (by rw [hR]; exact ⟨Nat.le_of_ble_eq_true rfl, Nat.le_of_ble_eq_true rfl⟩) (Nat.le_trans hd (by decide)) ⟨hc, hs⟩ dX7_asksDate_26 h)) (XE_b2i (CE_and (CE_and (CE_1 (L_iload (x := is_8) 0 X dX7_asksDate_29 rfl) (Z_ne_F X dX7_asksDate_31 (by decide))) (CE_1 (XE_1 (pB := pI)  (L_iload_n (x := when_) 4 X dX7_asksDate_34 rfl rfl) (fun v0 st mm a b hd hc hs h => g_callS (st := st) X hT htr (M_X7_isDay v0) lk_X7_isDay st_X7_isDay ml_X7_157 rfl (by rw [hR]; exact ⟨Nat.le_of_ble_eq_true rfl, Nat.le_of_ble_eq_true rfl⟩) (Nat.le_trans hd (by decide)) ⟨hc, hs⟩ dX7_asksDate_35 h)) (Z_ne_F X dX7_asksDate_38 (by decide)))) (CE_1 (XE_2 (pB := pI) wL (XE_3 (pB := pL) wR wI (L_aload_n (r := (some this)) 1 X dX7_asksDate_41 rfl rfl) (L_iload_n (x := person_) 2 X dX7_asksDate_42 rfl rfl) (L_iload_n (x := its_) 3 X dX7_asksDate_43 rfl rfl) (fun v0 v1 v2 st mm a b hd hc hs h => g_callVo (st := st) (cI := 8) X hT htr rfl (fun q => M_X7_datesOf q v1 v2) lk_X7_datesOf im_X7_datesOf se_X7_datesOf ml_X7_326 rfl (by rw [hR]; exact ⟨Nat.le_of_ble_eq_true rfl, Nat.le_of_ble_eq_true rfl⟩) (Nat.le_trans hd (by decide)) ⟨hc, hs⟩ dX7_asksDate_44 h)) (L_iload_n (x := when_) 4 X dX7_asksDate_47 rfl rfl) (fun v0 v1 st mm a b hd hc hs h => g_callS (st := st) X hT htr (M_X7_has v0 v1) lk_X7_has st_X7_has ml_X7_180 rfl (by rw [hR]; exact ⟨Nat.le_of_ble_eq_true rfl, Nat.le_of_ble_eq_true rfl⟩) (Nat.le_trans hd (by decide)) ⟨hc, hs⟩ dX7_asksDate_48 h)) (Z_ne_F X dX7_asksDate_51 (by decide)))) (S_b1 X dX7_asksDate_54 dX7_asksDate_55 (by decide)) (S_b0 X dX7_asksDate_58)) (fun v0 v1 v2 v3 st mm a b hd hc hs h => g_callVo (st := st) (cI := 8) X hT htr rfl (fun q => M_X7_goes q v1 v2 v3) lk_X7_goes im_X7_goes se_X7_goes ml_X7_153 rfl (by rw [hR]; exact ⟨Nat.le_of_ble_eq_true rfl, Nat.le_of_ble_eq_true rfl⟩) (Nat.le_trans hd (by decide)) ⟨hc, hs⟩ dX7_asksDate_59 h)))) h (by rw [hR]; decide) (by rw [hR]; decide)
theorem dX7_begin_0 : decode cX7_begin 0 = .ok (.aload_n 0, 1) := by decide +kernel
theorem dX7_begin_1 : decode cX7_begin 1 = .ok (.iload_n 1, 1) := by decide +kernel
theorem dX7_begin_2 : decode cX7_begin 2 = .ok (.iload_n 2, 1) := by decide +kernel
theorem dX7_begin_3 : decode cX7_begin 3 = .ok (.iload_n 3, 1) := by decide +kernel
theorem dX7_begin_4 : decode cX7_begin 4 = .ok (.invokevirtual 333, 3) := by decide +kernel
theorem dX7_begin_7 : decode cX7_begin 7 = .ok (.ifCond .eq 17, 3) := by decide +kernel
theorem dX7_begin_10 : decode cX7_begin 10 = .ok (.aload_n 0, 1) := by decide +kernel
theorem dX7_begin_11 : decode cX7_begin 11 = .ok (.aload_n 0, 1) := by decide +kernel
theorem dX7_begin_12 : decode cX7_begin 12 = .ok (.iload_n 1, 1) := by decide +kernel
theorem dX7_begin_13 : decode cX7_begin 13 = .ok (.iload_n 2, 1) := by decide +kernel
theorem dX7_begin_14 : decode cX7_begin 14 = .ok (.invokevirtual 323, 3) := by decide +kernel
theorem dX7_begin_17 : decode cX7_begin 17 = .ok (.iload_n 3, 1) := by decide +kernel
theorem dX7_begin_18 : decode cX7_begin 18 = .ok (.invokevirtual 336, 3) := by decide +kernel
theorem dX7_begin_21 : decode cX7_begin 21 = .ok (.goto 4, 3) := by decide +kernel
theorem dX7_begin_24 : decode cX7_begin 24 = .ok (.iconst 0, 1) := by decide +kernel
theorem dX7_begin_25 : decode cX7_begin 25 = .ok (.ireturn, 1) := by decide +kernel
theorem lk_X7_begin : LK yX7_begin cX7_begin 4 (some .int) 3 := ⟨qW_at 1756 (by decide +kernel) rfl, qW_at 78 (by decide +kernel) rfl, by decide, by decide, by decide +kernel⟩
theorem im_X7_begin : Cond.instanceMethod yX7_begin ∈ qW := qW_at 1754 (by decide +kernel) rfl
theorem se_X7_begin : Cond.selects RX7 yX7_begin yX7_begin ∈ qW := qW_at 1755 (by decide +kernel) rfl
def F_X7_begin (this : Nat) (person_ : Int32) (its_ : Int32) (when_ : Int32) : QX Int32 :=
  (xb (xb (xb (xp (some this)) fun v1 => xb (xp person_) fun v2 => xb (xp its_) fun v3 => xb (xp when_) fun v4 => xo 8 v1 fun q => F_X7_asksDate q v2 v3 v4) fun v5 => xp (decide (¬ v5 = 0))) fun v12 => if v12 then (xb (xp (some this)) fun v9 => xb (xb (xp (some this)) fun v6 => xb (xp person_) fun v7 => xb (xp its_) fun v8 => xo 8 v6 fun q => F_X7_versionOf q v7 v8) fun v10 => xb (xp when_) fun v11 => xo 8 v9 fun q => F_X7_beginOf q v10 v11) else (xp (0 : Int32)))
set_option maxRecDepth 100000 in
set_option maxHeartbeats 4000000 in
theorem M_X7_begin (this : Nat) (person_ : Int32) (its_ : Int32) (when_ : Int32) : MM yX7_begin cX7_begin 4 (some .int) 4 90 0 0 encI [.ref this, .int person_, .int its_, .int when_] (F_X7_begin this person_ its_ when_) := by
  refine MM_of (env0 := [(0, va_rf (some this)), (1, .int person_), (2, .int its_), (3, .int when_)]) (by decide) (by exact Nat.le_of_ble_eq_true rfl) (by rfl) (fun k mm res X C hR hN hr hname h => ?_)
  have X : CX k cX7_begin RX7 := X
  have hT : TH k (fun e m' => res = (.error e, m')) := TH_of C
  have htr := C.2.2.2.1
  unfold F_X7_begin at h
  exact SB_go (T := fun e m' => res = (.error e, m')) (RET := fun v m' => res = (.ok v, m')) (SB_retI X C hr dX7_begin_25 (XE_tern (CE_1 (XE_4 (pB := pI) wR wI wI (L_aload_n (r := (some this)) 0 X dX7_begin_0 rfl rfl) (L_iload_n (x := person_) 1 X dX7_begin_1 rfl rfl) (L_iload_n (x := its_) 2 X dX7_begin_2 rfl rfl) (L_iload_n (x := when_) 3 X dX7_begin_3 rfl rfl) (fun v0 v1 v2 v3 st mm a b hd hc hs h => g_callVo (st := st) (cI := 8) X hT htr rfl (fun q => M_X7_asksDate q v1 v2 v3) lk_X7_asksDate im_X7_asksDate se_X7_asksDate ml_X7_333 rfl (by rw [hR]; exact ⟨Nat.le_of_ble_eq_true rfl, Nat.le_of_ble_eq_true rfl⟩) (Nat.le_trans hd (by decide)) ⟨hc, hs⟩ dX7_begin_4 h)) (Z_ne_F X dX7_begin_7 (by decide))) (XE_3 (pB := pI) wR wI (L_aload_n (r := (some this)) 0 X dX7_begin_10 rfl rfl) (XE_3 (pB := pI) wR wI (L_aload_n (r := (some this)) 0 X dX7_begin_11 rfl rfl) (L_iload_n (x := person_) 1 X dX7_begin_12 rfl rfl) (L_iload_n (x := its_) 2 X dX7_begin_13 rfl rfl) (fun v0 v1 v2 st mm a b hd hc hs h => g_callVo (st := st) (cI := 8) X hT htr rfl (fun q => M_X7_versionOf q v1 v2) lk_X7_versionOf im_X7_versionOf se_X7_versionOf ml_X7_323 rfl (by rw [hR]; exact ⟨Nat.le_of_ble_eq_true rfl, Nat.le_of_ble_eq_true rfl⟩) (Nat.le_trans hd (by decide)) ⟨hc, hs⟩ dX7_begin_14 h)) (L_iload_n (x := when_) 3 X dX7_begin_17 rfl rfl) (fun v0 v1 v2 st mm a b hd hc hs h => g_callVo (st := st) (cI := 8) X hT htr rfl (fun q => M_X7_beginOf q v1 v2) lk_X7_beginOf im_X7_beginOf se_X7_beginOf ml_X7_336 rfl (by rw [hR]; exact ⟨Nat.le_of_ble_eq_true rfl, Nat.le_of_ble_eq_true rfl⟩) (Nat.le_trans hd (by decide)) ⟨hc, hs⟩ dX7_begin_18 h)) (S_goto X dX7_begin_21 (by decide)) (L_iconst (v := 0) X dX7_begin_24 (by decide)))) h (by rw [hR]; decide) (by rw [hR]; decide)
theorem dX7_ownOf_0 : decode cX7_ownOf 0 = .ok (.aload_n 0, 1) := by decide +kernel
theorem dX7_ownOf_1 : decode cX7_ownOf 1 = .ok (.getfield 19, 3) := by decide +kernel
theorem dX7_ownOf_4 : decode cX7_ownOf 4 = .ok (.iload_n 2, 1) := by decide +kernel
theorem dX7_ownOf_5 : decode cX7_ownOf 5 = .ok (.iaload, 1) := by decide +kernel
theorem dX7_ownOf_6 : decode cX7_ownOf 6 = .ok (.iload_n 1, 1) := by decide +kernel
theorem dX7_ownOf_7 : decode cX7_ownOf 7 = .ok (.if_icmp .ne 7, 3) := by decide +kernel
theorem dX7_ownOf_10 : decode cX7_ownOf 10 = .ok (.iconst 1, 1) := by decide +kernel
theorem dX7_ownOf_11 : decode cX7_ownOf 11 = .ok (.goto 21, 3) := by decide +kernel
theorem dX7_ownOf_14 : decode cX7_ownOf 14 = .ok (.aload_n 0, 1) := by decide +kernel
theorem dX7_ownOf_15 : decode cX7_ownOf 15 = .ok (.iload_n 2, 1) := by decide +kernel
theorem dX7_ownOf_16 : decode cX7_ownOf 16 = .ok (.iload_n 1, 1) := by decide +kernel
theorem dX7_ownOf_17 : decode cX7_ownOf 17 = .ok (.iload_n 3, 1) := by decide +kernel
theorem dX7_ownOf_18 : decode cX7_ownOf 18 = .ok (.aload_n 0, 1) := by decide +kernel
theorem dX7_ownOf_19 : decode cX7_ownOf 19 = .ok (.getfield 81, 3) := by decide +kernel
theorem dX7_ownOf_22 : decode cX7_ownOf 22 = .ok (.iload_n 1, 1) := by decide +kernel
theorem dX7_ownOf_23 : decode cX7_ownOf 23 = .ok (.iload_n 2, 1) := by decide +kernel
theorem dX7_ownOf_24 : decode cX7_ownOf 24 = .ok (.invokestatic 171, 3) := by decide +kernel
theorem dX7_ownOf_27 : decode cX7_ownOf 27 = .ok (.iaload, 1) := by decide +kernel
theorem dX7_ownOf_28 : decode cX7_ownOf 28 = .ok (.iconst 1, 1) := by decide +kernel
theorem dX7_ownOf_29 : decode cX7_ownOf 29 = .ok (.invokevirtual 339, 3) := by decide +kernel
theorem dX7_ownOf_32 : decode cX7_ownOf 32 = .ok (.ireturn, 1) := by decide +kernel
theorem lk_X7_ownOf : LK yX7_ownOf cX7_ownOf 4 (some .int) 3 := ⟨qW_at 1772 (by decide +kernel) rfl, qW_at 78 (by decide +kernel) rfl, by decide, by decide, by decide +kernel⟩
theorem im_X7_ownOf : Cond.instanceMethod yX7_ownOf ∈ qW := qW_at 1771 (by decide +kernel) rfl
theorem se_X7_ownOf : Cond.selects RX7 yX7_ownOf yX7_ownOf ∈ qW := qW_at 67 (by decide +kernel) rfl
def F_X7_ownOf (this : Nat) (person_ : Int32) (its_ : Int32) (when_ : Int32) : QX Int32 :=
  (xb (xb (xb (xb (xp (some this)) fun v1 => xgr 8 4 v1) fun v2 => xb (xp its_) fun v3 => xai 0 v2 v3) fun v4 => xb (xp person_) fun v5 => xp (decide (v4 = v5))) fun v17 => if v17 then (xp (1 : Int32)) else (xb (xp (some this)) fun v11 => xb (xp its_) fun v12 => xb (xp person_) fun v13 => xb (xp when_) fun v14 => xb (xb (xb (xp (some this)) fun v6 => xgr 8 25 v6) fun v9 => xb (xb (xp person_) fun v7 => xb (xp its_) fun v8 => F_X7_at v7 v8) fun v10 => xai 0 v9 v10) fun v15 => xb (xp (1 : Int32)) fun v16 => xo 8 v11 fun q => F_X7_answers q v12 v13 v14 v15 v16))
set_option maxRecDepth 100000 in
set_option maxHeartbeats 4000000 in
theorem M_X7_ownOf (this : Nat) (person_ : Int32) (its_ : Int32) (when_ : Int32) : MM yX7_ownOf cX7_ownOf 4 (some .int) 2 50 0 0 encI [.ref this, .int person_, .int its_, .int when_] (F_X7_ownOf this person_ its_ when_) := by
  refine MM_of (env0 := [(0, va_rf (some this)), (1, .int person_), (2, .int its_), (3, .int when_)]) (by decide) (by exact Nat.le_of_ble_eq_true rfl) (by rfl) (fun k mm res X C hR hN hr hname h => ?_)
  have X : CX k cX7_ownOf RX7 := X
  have hT : TH k (fun e m' => res = (.error e, m')) := TH_of C
  have htr := C.2.2.2.1
  unfold F_X7_ownOf at h
  exact SB_go (T := fun e m' => res = (.error e, m')) (RET := fun v m' => res = (.ok v, m')) (SB_retI X C hr dX7_ownOf_32 (XE_tern (CE_2 wI (XE_2 wR (XE_1 (L_aload_n (r := (some this)) 0 X dX7_ownOf_0 rfl rfl) (O_gr (c := 8) (j := 4) X rfl inW7 (by decide) fl_X7_19 rfl dX7_ownOf_1)) (L_iload_n (x := its_) 2 X dX7_ownOf_4 rfl rfl) (O_ai X dX7_ownOf_5)) (L_iload_n (x := person_) 1 X dX7_ownOf_6 rfl rfl) (C_eq_F X dX7_ownOf_7 (by decide))) (L_iconst (v := 1) X dX7_ownOf_10 (by decide)) (S_goto X dX7_ownOf_11 (by decide)) (XE_6 (pB := pI) wR wI wI wI wI (L_aload_n (r := (some this)) 0 X dX7_ownOf_14 rfl rfl) (L_iload_n (x := its_) 2 X dX7_ownOf_15 rfl rfl) (L_iload_n (x := person_) 1 X dX7_ownOf_16 rfl rfl) (L_iload_n (x := when_) 3 X dX7_ownOf_17 rfl rfl) (XE_2 wR (XE_1 (L_aload_n (r := (some this)) 0 X dX7_ownOf_18 rfl rfl) (O_gr (c := 8) (j := 25) X rfl inW7 (by decide) fl_X7_81 rfl dX7_ownOf_19)) (XE_2 (pB := pI) wI (L_iload_n (x := person_) 1 X dX7_ownOf_22 rfl rfl) (L_iload_n (x := its_) 2 X dX7_ownOf_23 rfl rfl) (fun v0 v1 st mm a b hd hc hs h => g_callS (st := st) X hT htr (M_X7_at v0 v1) lk_X7_at st_X7_at ml_X7_171 rfl (by rw [hR]; exact ⟨Nat.le_of_ble_eq_true rfl, Nat.le_of_ble_eq_true rfl⟩) (Nat.le_trans hd (by decide)) ⟨hc, hs⟩ dX7_ownOf_24 h)) (O_ai X dX7_ownOf_27)) (L_iconst (v := 1) X dX7_ownOf_28 (by decide)) (fun v0 v1 v2 v3 v4 v5 st mm a b hd hc hs h => g_callVo (st := st) (cI := 8) X hT htr rfl (fun q => M_X7_answers q v1 v2 v3 v4 v5) lk_X7_answers im_X7_answers se_X7_answers ml_X7_339 rfl (by rw [hR]; exact ⟨Nat.le_of_ble_eq_true rfl, Nat.le_of_ble_eq_true rfl⟩) (Nat.le_trans hd (by decide)) ⟨hc, hs⟩ dX7_ownOf_29 h)))) h (by rw [hR]; decide) (by rw [hR]; decide)
theorem dX7_ownAnswer_0 : decode cX7_ownAnswer 0 = .ok (.aload_n 0, 1) := by decide +kernel
theorem dX7_ownAnswer_1 : decode cX7_ownAnswer 1 = .ok (.iload_n 1, 1) := by decide +kernel
theorem dX7_ownAnswer_2 : decode cX7_ownAnswer 2 = .ok (.iload_n 2, 1) := by decide +kernel
theorem dX7_ownAnswer_3 : decode cX7_ownAnswer 3 = .ok (.iload_n 3, 1) := by decide +kernel
theorem dX7_ownAnswer_4 : decode cX7_ownAnswer 4 = .ok (.invokevirtual 333, 3) := by decide +kernel
theorem dX7_ownAnswer_7 : decode cX7_ownAnswer 7 = .ok (.ifCond .eq 13, 3) := by decide +kernel
theorem dX7_ownAnswer_10 : decode cX7_ownAnswer 10 = .ok (.aload_n 0, 1) := by decide +kernel
theorem dX7_ownAnswer_11 : decode cX7_ownAnswer 11 = .ok (.iload_n 1, 1) := by decide +kernel
theorem dX7_ownAnswer_12 : decode cX7_ownAnswer 12 = .ok (.iload_n 2, 1) := by decide +kernel
theorem dX7_ownAnswer_13 : decode cX7_ownAnswer 13 = .ok (.iload_n 3, 1) := by decide +kernel
theorem dX7_ownAnswer_14 : decode cX7_ownAnswer 14 = .ok (.invokevirtual 343, 3) := by decide +kernel
theorem dX7_ownAnswer_17 : decode cX7_ownAnswer 17 = .ok (.goto 4, 3) := by decide +kernel
theorem dX7_ownAnswer_20 : decode cX7_ownAnswer 20 = .ok (.iconst 0, 1) := by decide +kernel
theorem dX7_ownAnswer_21 : decode cX7_ownAnswer 21 = .ok (.ireturn, 1) := by decide +kernel
theorem lk_X7_ownAnswer : LK yX7_ownAnswer cX7_ownAnswer 4 (some .int) 3 := ⟨qW_at 1768 (by decide +kernel) rfl, qW_at 78 (by decide +kernel) rfl, by decide, by decide, by decide +kernel⟩
theorem im_X7_ownAnswer : Cond.instanceMethod yX7_ownAnswer ∈ qW := qW_at 1766 (by decide +kernel) rfl
theorem se_X7_ownAnswer : Cond.selects RX7 yX7_ownAnswer yX7_ownAnswer ∈ qW := qW_at 1767 (by decide +kernel) rfl
def F_X7_ownAnswer (this : Nat) (person_ : Int32) (its_ : Int32) (when_ : Int32) : QX Int32 :=
  (xb (xb (xb (xp (some this)) fun v1 => xb (xp person_) fun v2 => xb (xp its_) fun v3 => xb (xp when_) fun v4 => xo 8 v1 fun q => F_X7_asksDate q v2 v3 v4) fun v5 => xp (decide (¬ v5 = 0))) fun v10 => if v10 then (xb (xp (some this)) fun v6 => xb (xp person_) fun v7 => xb (xp its_) fun v8 => xb (xp when_) fun v9 => xo 8 v6 fun q => F_X7_ownOf q v7 v8 v9) else (xp (0 : Int32)))
set_option maxRecDepth 100000 in
set_option maxHeartbeats 4000000 in
theorem M_X7_ownAnswer (this : Nat) (person_ : Int32) (its_ : Int32) (when_ : Int32) : MM yX7_ownAnswer cX7_ownAnswer 4 (some .int) 4 90 0 0 encI [.ref this, .int person_, .int its_, .int when_] (F_X7_ownAnswer this person_ its_ when_) := by
  refine MM_of (env0 := [(0, va_rf (some this)), (1, .int person_), (2, .int its_), (3, .int when_)]) (by decide) (by exact Nat.le_of_ble_eq_true rfl) (by rfl) (fun k mm res X C hR hN hr hname h => ?_)
  have X : CX k cX7_ownAnswer RX7 := X
  have hT : TH k (fun e m' => res = (.error e, m')) := TH_of C
  have htr := C.2.2.2.1
  unfold F_X7_ownAnswer at h
  exact SB_go (T := fun e m' => res = (.error e, m')) (RET := fun v m' => res = (.ok v, m')) (SB_retI X C hr dX7_ownAnswer_21 (XE_tern (CE_1 (XE_4 (pB := pI) wR wI wI (L_aload_n (r := (some this)) 0 X dX7_ownAnswer_0 rfl rfl) (L_iload_n (x := person_) 1 X dX7_ownAnswer_1 rfl rfl) (L_iload_n (x := its_) 2 X dX7_ownAnswer_2 rfl rfl) (L_iload_n (x := when_) 3 X dX7_ownAnswer_3 rfl rfl) (fun v0 v1 v2 v3 st mm a b hd hc hs h => g_callVo (st := st) (cI := 8) X hT htr rfl (fun q => M_X7_asksDate q v1 v2 v3) lk_X7_asksDate im_X7_asksDate se_X7_asksDate ml_X7_333 rfl (by rw [hR]; exact ⟨Nat.le_of_ble_eq_true rfl, Nat.le_of_ble_eq_true rfl⟩) (Nat.le_trans hd (by decide)) ⟨hc, hs⟩ dX7_ownAnswer_4 h)) (Z_ne_F X dX7_ownAnswer_7 (by decide))) (XE_4 (pB := pI) wR wI wI (L_aload_n (r := (some this)) 0 X dX7_ownAnswer_10 rfl rfl) (L_iload_n (x := person_) 1 X dX7_ownAnswer_11 rfl rfl) (L_iload_n (x := its_) 2 X dX7_ownAnswer_12 rfl rfl) (L_iload_n (x := when_) 3 X dX7_ownAnswer_13 rfl rfl) (fun v0 v1 v2 v3 st mm a b hd hc hs h => g_callVo (st := st) (cI := 8) X hT htr rfl (fun q => M_X7_ownOf q v1 v2 v3) lk_X7_ownOf im_X7_ownOf se_X7_ownOf ml_X7_343 rfl (by rw [hR]; exact ⟨Nat.le_of_ble_eq_true rfl, Nat.le_of_ble_eq_true rfl⟩) (Nat.le_trans hd (by decide)) ⟨hc, hs⟩ dX7_ownAnswer_14 h)) (S_goto X dX7_ownAnswer_17 (by decide)) (L_iconst (v := 0) X dX7_ownAnswer_20 (by decide)))) h (by rw [hR]; decide) (by rw [hR]; decide)
theorem dX7_isAsked_0 : decode cX7_isAsked 0 = .ok (.aload_n 0, 1) := by decide +kernel
theorem dX7_isAsked_1 : decode cX7_isAsked 1 = .ok (.iload_n 2, 1) := by decide +kernel
theorem dX7_isAsked_2 : decode cX7_isAsked 2 = .ok (.iload_n 1, 1) := by decide +kernel
theorem dX7_isAsked_3 : decode cX7_isAsked 3 = .ok (.invokevirtual 320, 3) := by decide +kernel
theorem dX7_isAsked_6 : decode cX7_isAsked 6 = .ok (.ifCond .eq 20, 3) := by decide +kernel
theorem dX7_isAsked_9 : decode cX7_isAsked 9 = .ok (.aload_n 0, 1) := by decide +kernel
theorem dX7_isAsked_10 : decode cX7_isAsked 10 = .ok (.iload_n 1, 1) := by decide +kernel
theorem dX7_isAsked_11 : decode cX7_isAsked 11 = .ok (.invokevirtual 246, 3) := by decide +kernel
theorem dX7_isAsked_14 : decode cX7_isAsked 14 = .ok (.iload_n 2, 1) := by decide +kernel
theorem dX7_isAsked_15 : decode cX7_isAsked 15 = .ok (.ishr, 1) := by decide +kernel
theorem dX7_isAsked_16 : decode cX7_isAsked 16 = .ok (.iconst 1, 1) := by decide +kernel
theorem dX7_isAsked_17 : decode cX7_isAsked 17 = .ok (.iand, 1) := by decide +kernel
theorem dX7_isAsked_18 : decode cX7_isAsked 18 = .ok (.iconst 1, 1) := by decide +kernel
theorem dX7_isAsked_19 : decode cX7_isAsked 19 = .ok (.if_icmp .ne 7, 3) := by decide +kernel
theorem dX7_isAsked_22 : decode cX7_isAsked 22 = .ok (.iconst 1, 1) := by decide +kernel
theorem dX7_isAsked_23 : decode cX7_isAsked 23 = .ok (.goto 4, 3) := by decide +kernel
theorem dX7_isAsked_26 : decode cX7_isAsked 26 = .ok (.iconst 0, 1) := by decide +kernel
theorem dX7_isAsked_27 : decode cX7_isAsked 27 = .ok (.ireturn, 1) := by decide +kernel
theorem lk_X7_isAsked : LK yX7_isAsked cX7_isAsked 3 (some .boolean) 2 := ⟨qW_at 1780 (by decide +kernel) rfl, qW_at 78 (by decide +kernel) rfl, by decide, by decide, by decide +kernel⟩
theorem im_X7_isAsked : Cond.instanceMethod yX7_isAsked ∈ qW := qW_at 1778 (by decide +kernel) rfl
theorem se_X7_isAsked : Cond.selects RX7 yX7_isAsked yX7_isAsked ∈ qW := qW_at 1779 (by decide +kernel) rfl
def F_X7_isAsked (this : Nat) (its_ : Int32) (person_ : Int32) : QX Int32 :=
  (xb (xb (xb (xb (xb (xp (some this)) fun v1 => xb (xp person_) fun v2 => xb (xp its_) fun v3 => xo 8 v1 fun q => F_X7_asks q v2 v3) fun v4 => xp (decide (¬ v4 = 0))) fun v13 => if v13 then (xb (xb (xb (xb (xp (some this)) fun v5 => xb (xp its_) fun v6 => xo 8 v5 fun q => F_X7_asked q v6) fun v7 => xb (xp person_) fun v8 => (xp (v7 >>> (v8 &&& 31)))) fun v9 => xb (xp (1 : Int32)) fun v10 => (xp (v9 &&& v10))) fun v11 => xb (xp (1 : Int32)) fun v12 => xp (decide (v11 = v12))) else xp false) fun v14 => xp (b2i v14)) xz)
set_option maxRecDepth 100000 in
set_option maxHeartbeats 4000000 in
theorem M_X7_isAsked (this : Nat) (its_ : Int32) (person_ : Int32) : MM yX7_isAsked cX7_isAsked 3 (some .boolean) 3 74 0 0 encI [.ref this, .int its_, .int person_] (F_X7_isAsked this its_ person_) := by
  refine MM_of (env0 := [(0, va_rf (some this)), (1, .int its_), (2, .int person_)]) (by decide) (by exact Nat.le_of_ble_eq_true rfl) (by rfl) (fun k mm res X C hR hN hr hname h => ?_)
  have X : CX k cX7_isAsked RX7 := X
  have hT : TH k (fun e m' => res = (.error e, m')) := TH_of C
  have htr := C.2.2.2.1
  unfold F_X7_isAsked at h
  exact SB_go (T := fun e m' => res = (.error e, m')) (RET := fun v m' => res = (.ok v, m')) (SB_retZ X C hr dX7_isAsked_27 (XE_b2i (CE_and (CE_1 (XE_3 (pB := pI) wR wI (L_aload_n (r := (some this)) 0 X dX7_isAsked_0 rfl rfl) (L_iload_n (x := person_) 2 X dX7_isAsked_1 rfl rfl) (L_iload_n (x := its_) 1 X dX7_isAsked_2 rfl rfl) (fun v0 v1 v2 st mm a b hd hc hs h => g_callVo (st := st) (cI := 8) X hT htr rfl (fun q => M_X7_asks q v1 v2) lk_X7_asks im_X7_asks se_X7_asks ml_X7_320 rfl (by rw [hR]; exact ⟨Nat.le_of_ble_eq_true rfl, Nat.le_of_ble_eq_true rfl⟩) (Nat.le_trans hd (by decide)) ⟨hc, hs⟩ dX7_isAsked_3 h)) (Z_ne_F X dX7_isAsked_6 (by decide))) (CE_2 wI (XE_2 wI (XE_2 wI (XE_2 (pB := pI) wR (L_aload_n (r := (some this)) 0 X dX7_isAsked_9 rfl rfl) (L_iload_n (x := its_) 1 X dX7_isAsked_10 rfl rfl) (fun v0 v1 st mm a b hd hc hs h => g_callVo (st := st) (cI := 8) X hT htr rfl (fun q => M_X7_asked q v1) lk_X7_asked im_X7_asked se_X7_asked ml_X7_246 rfl (by rw [hR]; exact ⟨Nat.le_of_ble_eq_true rfl, Nat.le_of_ble_eq_true rfl⟩) (Nat.le_trans hd (by decide)) ⟨hc, hs⟩ dX7_isAsked_11 h)) (L_iload_n (x := person_) 2 X dX7_isAsked_14 rfl rfl) (O_ishr X dX7_isAsked_15)) (L_iconst (v := 1) X dX7_isAsked_16 (by decide)) (O_iand X dX7_isAsked_17)) (L_iconst (v := 1) X dX7_isAsked_18 (by decide)) (C_eq_F X dX7_isAsked_19 (by decide)))) (S_b1 X dX7_isAsked_22 dX7_isAsked_23 (by decide)) (S_b0 X dX7_isAsked_26))) h (by rw [hR]; decide) (by rw [hR]; decide)
