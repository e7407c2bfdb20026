theorem dX7_answerOf_0 : decode cX7_answerOf 0 = .ok (.iload_n 2, 1) := by decide +kernel
theorem dX7_answerOf_1 : decode cX7_answerOf 1 = .ok (.invokestatic 202, 3) := by decide +kernel
theorem dX7_answerOf_4 : decode cX7_answerOf 4 = .ok (.ifCond .eq 15, 3) := by decide +kernel
theorem dX7_answerOf_7 : decode cX7_answerOf 7 = .ok (.aload_n 0, 1) := by decide +kernel
theorem dX7_answerOf_8 : decode cX7_answerOf 8 = .ok (.iload_n 1, 1) := by decide +kernel
theorem dX7_answerOf_9 : decode cX7_answerOf 9 = .ok (.invokevirtual 211, 3) := by decide +kernel
theorem dX7_answerOf_12 : decode cX7_answerOf 12 = .ok (.ifCond .eq 7, 3) := by decide +kernel
theorem dX7_answerOf_15 : decode cX7_answerOf 15 = .ok (.iconst 1, 1) := by decide +kernel
theorem dX7_answerOf_16 : decode cX7_answerOf 16 = .ok (.goto 4, 3) := by decide +kernel
theorem dX7_answerOf_19 : decode cX7_answerOf 19 = .ok (.iconst 0, 1) := by decide +kernel
theorem dX7_answerOf_20 : decode cX7_answerOf 20 = .ok (.istore 4, 2) := by decide +kernel
theorem dX7_answerOf_22 : decode cX7_answerOf 22 = .ok (.aload_n 0, 1) := by decide +kernel
theorem dX7_answerOf_23 : decode cX7_answerOf 23 = .ok (.iload 4, 2) := by decide +kernel
theorem dX7_answerOf_25 : decode cX7_answerOf 25 = .ok (.iload_n 3, 1) := by decide +kernel
theorem dX7_answerOf_26 : decode cX7_answerOf 26 = .ok (.invokestatic 157, 3) := by decide +kernel
theorem dX7_answerOf_29 : decode cX7_answerOf 29 = .ok (.iload 4, 2) := by decide +kernel
theorem dX7_answerOf_31 : decode cX7_answerOf 31 = .ok (.ifCond .eq 32, 3) := by decide +kernel
theorem dX7_answerOf_34 : decode cX7_answerOf 34 = .ok (.iload_n 3, 1) := by decide +kernel
theorem dX7_answerOf_35 : decode cX7_answerOf 35 = .ok (.invokestatic 157, 3) := by decide +kernel
theorem dX7_answerOf_38 : decode cX7_answerOf 38 = .ok (.ifCond .eq 25, 3) := by decide +kernel
theorem dX7_answerOf_41 : decode cX7_answerOf 41 = .ok (.aload_n 0, 1) := by decide +kernel
theorem dX7_answerOf_42 : decode cX7_answerOf 42 = .ok (.getfield 75, 3) := by decide +kernel
theorem dX7_answerOf_45 : decode cX7_answerOf 45 = .ok (.aload_n 0, 1) := by decide +kernel
theorem dX7_answerOf_46 : decode cX7_answerOf 46 = .ok (.getfield 22, 3) := by decide +kernel
theorem dX7_answerOf_49 : decode cX7_answerOf 49 = .ok (.iload_n 1, 1) := by decide +kernel
theorem dX7_answerOf_50 : decode cX7_answerOf 50 = .ok (.iaload, 1) := by decide +kernel
theorem dX7_answerOf_51 : decode cX7_answerOf 51 = .ok (.laload, 1) := by decide +kernel
theorem dX7_answerOf_52 : decode cX7_answerOf 52 = .ok (.iload_n 3, 1) := by decide +kernel
theorem dX7_answerOf_53 : decode cX7_answerOf 53 = .ok (.invokestatic 180, 3) := by decide +kernel
theorem dX7_answerOf_56 : decode cX7_answerOf 56 = .ok (.ifCond .eq 7, 3) := by decide +kernel
theorem dX7_answerOf_59 : decode cX7_answerOf 59 = .ok (.iconst 1, 1) := by decide +kernel
theorem dX7_answerOf_60 : decode cX7_answerOf 60 = .ok (.goto 4, 3) := by decide +kernel
theorem dX7_answerOf_63 : decode cX7_answerOf 63 = .ok (.iconst 0, 1) := by decide +kernel
theorem dX7_answerOf_64 : decode cX7_answerOf 64 = .ok (.invokevirtual 153, 3) := by decide +kernel
theorem dX7_answerOf_67 : decode cX7_answerOf 67 = .ok (.ifCond .ne 5, 3) := by decide +kernel
theorem dX7_answerOf_70 : decode cX7_answerOf 70 = .ok (.iconst 0, 1) := by decide +kernel
theorem dX7_answerOf_71 : decode cX7_answerOf 71 = .ok (.ireturn, 1) := by decide +kernel
theorem dX7_answerOf_72 : decode cX7_answerOf 72 = .ok (.aload_n 0, 1) := by decide +kernel
theorem dX7_answerOf_73 : decode cX7_answerOf 73 = .ok (.iload_n 1, 1) := by decide +kernel
theorem dX7_answerOf_74 : decode cX7_answerOf 74 = .ok (.invokevirtual 246, 3) := by decide +kernel
theorem dX7_answerOf_77 : decode cX7_answerOf 77 = .ok (.iload_n 2, 1) := by decide +kernel
theorem dX7_answerOf_78 : decode cX7_answerOf 78 = .ok (.ishr, 1) := by decide +kernel
theorem dX7_answerOf_79 : decode cX7_answerOf 79 = .ok (.iconst 1, 1) := by decide +kernel
theorem dX7_answerOf_80 : decode cX7_answerOf 80 = .ok (.iand, 1) := by decide +kernel
theorem dX7_answerOf_81 : decode cX7_answerOf 81 = .ok (.ifCond .ne 7, 3) := by decide +kernel
theorem dX7_answerOf_84 : decode cX7_answerOf 84 = .ok (.iconst (-1), 1) := by decide +kernel
theorem dX7_answerOf_85 : decode cX7_answerOf 85 = .ok (.goto 17, 3) := by decide +kernel
theorem dX7_answerOf_88 : decode cX7_answerOf 88 = .ok (.aload_n 0, 1) := by decide +kernel
theorem dX7_answerOf_89 : decode cX7_answerOf 89 = .ok (.iload_n 1, 1) := by decide +kernel
theorem dX7_answerOf_90 : decode cX7_answerOf 90 = .ok (.iload_n 2, 1) := by decide +kernel
theorem dX7_answerOf_91 : decode cX7_answerOf 91 = .ok (.iload_n 3, 1) := by decide +kernel
theorem dX7_answerOf_92 : decode cX7_answerOf 92 = .ok (.aload_n 0, 1) := by decide +kernel
theorem dX7_answerOf_93 : decode cX7_answerOf 93 = .ok (.getfield 22, 3) := by decide +kernel
theorem dX7_answerOf_96 : decode cX7_answerOf 96 = .ok (.iload_n 1, 1) := by decide +kernel
theorem dX7_answerOf_97 : decode cX7_answerOf 97 = .ok (.iaload, 1) := by decide +kernel
theorem dX7_answerOf_98 : decode cX7_answerOf 98 = .ok (.iconst 0, 1) := by decide +kernel
theorem dX7_answerOf_99 : decode cX7_answerOf 99 = .ok (.invokevirtual 339, 3) := by decide +kernel
theorem dX7_answerOf_102 : decode cX7_answerOf 102 = .ok (.ireturn, 1) := by decide +kernel
theorem lk_X7_answerOf : LK yX7_answerOf cX7_answerOf 5 (some .int) 3 := ⟨qW_at 1784 (by decide +kernel) rfl, qW_at 78 (by decide +kernel) rfl, by decide, by decide, by decide +kernel⟩
theorem im_X7_answerOf : Cond.instanceMethod yX7_answerOf ∈ qW := qW_at 1782 (by decide +kernel) rfl
theorem se_X7_answerOf : Cond.selects RX7 yX7_answerOf yX7_answerOf ∈ qW := qW_at 1783 (by decide +kernel) rfl
def F_X7_answerOf (this : Nat) (its_ : Int32) (person_ : Int32) (when_ : Int32) : QX Int32 :=
  (xb (xb (xb (xb (xb (xp person_) fun v1 => F_X7_isPerson v1) fun v2 => xp (decide (¬ v2 = 0))) fun v6 => if v6 then (xb (xb (xp (some this)) fun v3 => xb (xp its_) fun v4 => xo 8 v3 fun q => F_X7_isMeeting q v4) fun v5 => xp (decide (¬ v5 = 0))) else xp false) fun v7 => xp (b2i v7)) fun is_8 =>
  (xb (xb (xb (xb (xp (some this)) fun v25 => xb (xp is_8) fun v26 => xb (xb (xp when_) fun v9 => F_X7_isDay v9) fun v27 => xb (xb (xb (xb (xb (xp is_8) fun v10 => xp (decide (¬ v10 = 0))) fun v13 => if v13 then (xb (xb (xp when_) fun v11 => F_X7_isDay v11) fun v12 => xp (decide (¬ v12 = 0))) else xp false) fun v23 => if v23 then (xb (xb (xb (xb (xp (some this)) fun v14 => xgr 8 23 v14) fun v18 => xb (xb (xb (xp (some this)) fun v15 => xgr 8 5 v15) fun v16 => xb (xp its_) fun v17 => xai 0 v16 v17) fun v19 => xal v18 v19) fun v20 => xb (xp when_) fun v21 => F_X7_has v20 v21) fun v22 => xp (decide (¬ v22 = 0))) else xp false) fun v24 => xp (b2i v24)) fun v28 => xo 8 v25 fun q => F_X7_goes q v26 v27 v28) fun v29 => xp (decide (¬ v29 = 0))) fun v30 => xp (!v30)) fun v48 => if v48 then (xp (0 : Int32)) else
  (xb (xb (xb (xb (xb (xp (some this)) fun v31 => xb (xp its_) fun v32 => xo 8 v31 fun q => F_X7_asked q v32) fun v33 => xb (xp person_) fun v34 => (xp (v33 >>> (v34 &&& 31)))) fun v35 => xb (xp (1 : Int32)) fun v36 => (xp (v35 &&& v36))) fun v37 => xp (decide (v37 = 0))) fun v47 => if v47 then (xp (-1 : Int32)) else (xb (xp (some this)) fun v41 => xb (xp its_) fun v42 => xb (xp person_) fun v43 => xb (xp when_) fun v44 => xb (xb (xb (xp (some this)) fun v38 => xgr 8 5 v38) fun v39 => xb (xp its_) fun v40 => xai 0 v39 v40) fun v45 => xb (xp (0 : Int32)) fun v46 => xo 8 v41 fun q => F_X7_answers q v42 v43 v44 v45 v46))))
set_option maxRecDepth 100000 in
set_option maxHeartbeats 4000000 in
theorem M_X7_answerOf (this : Nat) (its_ : Int32) (person_ : Int32) (when_ : Int32) : MM yX7_answerOf cX7_answerOf 5 (some .int) 3 74 0 0 encI [.ref this, .int its_, .int person_, .int when_] (F_X7_answerOf this its_ person_ when_) := by
  refine MM_of (env0 := [(0, va_rf (some this)), (1, .int its_), (2, .int person_), (3, .int when_)]) (by decide) (by exact Nat.le_of_ble_eq_true rfl) (by rfl) (fun k mm res X C hR hN hr hname h => ?_)
  have X : CX k cX7_answerOf RX7 := X
  have hT : TH k (fun e m' => res = (.error e, m')) := TH_of C
  have htr := C.2.2.2.1
  unfold F_X7_answerOf at h
  exact SB_go (T := fun e m' => res = (.error e, m')) (RET := fun v m' => res = (.ok v, m')) (SB_let (XE_b2i (CE_and (CE_1 (XE_1 (pB := pI)  (L_iload_n (x := person_) 2 X dX7_answerOf_0 rfl rfl) (fun v0 st mm a b hd hc hs h => g_callS (st := st) X hT htr (M_X7_isPerson v0) lk_X7_isPerson st_X7_isPerson ml_X7_202 rfl (by rw [hR]; exact ⟨Nat.le_of_ble_eq_true rfl, Nat.le_of_ble_eq_true rfl⟩) (Nat.le_trans hd (by decide)) ⟨hc, hs⟩ dX7_answerOf_1 h)) (Z_ne_F X dX7_answerOf_4 (by decide))) (CE_1 (XE_2 (pB := pI) wR (L_aload_n (r := (some this)) 0 X dX7_answerOf_7 rfl rfl) (L_iload_n (x := its_) 1 X dX7_answerOf_8 rfl rfl) (fun v0 v1 st mm a b hd hc hs h => g_callVo (st := st) (cI := 8) X hT htr rfl (fun q => M_X7_isMeeting q v1) lk_X7_isMeeting im_X7_isMeeting se_X7_isMeeting ml_X7_211 rfl (by rw [hR]; exact ⟨Nat.le_of_ble_eq_true rfl, Nat.le_of_ble_eq_true rfl⟩) (Nat.le_trans hd (by decide)) ⟨hc, hs⟩ dX7_answerOf_9 h)) (Z_ne_F X dX7_answerOf_12 (by decide)))) (S_b1 X dX7_answerOf_15 dX7_answerOf_16 (by decide)) (S_b0 X dX7_answerOf_19)) (S_istore (ev := fun is_8 => [(4, .int is_8), (0, va_rf (some this)), (1, .int its_), (2, .int person_), (3, .int when_)]) X dX7_answerOf_20 (by rw [hN]; decide) (fun _ => rfl)) fun is_8 =>
  (SB_if (CE_not (CE_1 (XE_4 (pB := pI) wR wI wI (L_aload_n (r := (some this)) 1 X dX7_answerOf_22 rfl rfl) (L_iload (x := is_8) 0 X dX7_answerOf_23 rfl) (XE_1 (pB := pI)  (L_iload_n (x := when_) 4 X dX7_answerOf_25 rfl rfl) (fun v0 st mm a b hd hc hs h => g_callS (st := st) X hT htr (M_X7_isDay v0) lk_X7_isDay st_X7_isDay ml_X7_157 rfl (by rw [hR]; exact ⟨Nat.le_of_ble_eq_true rfl, Nat.le_of_ble_eq_true rfl⟩) (Nat.le_trans hd (by decide)) ⟨hc, hs⟩ dX7_answerOf_26 h)) (XE_b2i (CE_and (CE_and (CE_1 (L_iload (x := is_8) 0 X dX7_answerOf_29 rfl) (Z_ne_F X dX7_answerOf_31 (by decide))) (CE_1 (XE_1 (pB := pI)  (L_iload_n (x := when_) 4 X dX7_answerOf_34 rfl rfl) (fun v0 st mm a b hd hc hs h => g_callS (st := st) X hT htr (M_X7_isDay v0) lk_X7_isDay st_X7_isDay ml_X7_157 rfl (by rw [hR]; exact ⟨Nat.le_of_ble_eq_true rfl, Nat.le_of_ble_eq_true rfl⟩) (Nat.le_trans hd (by decide)) ⟨hc, hs⟩ dX7_answerOf_35 h)) (Z_ne_F X dX7_answerOf_38 (by decide)))) (CE_1 (XE_2 (pB := pI) wL (XE_2 wR (XE_1 (L_aload_n (r := (some this)) 1 X dX7_answerOf_41 rfl rfl) (O_gr (c := 8) (j := 23) X rfl inW7 (by decide) fl_X7_75 rfl dX7_answerOf_42)) (XE_2 wR (XE_1 (L_aload_n (r := (some this)) 1 X dX7_answerOf_45 rfl rfl) (O_gr (c := 8) (j := 5) X rfl inW7 (by decide) fl_X7_22 rfl dX7_answerOf_46)) (L_iload_n (x := its_) 2 X dX7_answerOf_49 rfl rfl) (O_ai X dX7_answerOf_50)) (O_al X dX7_answerOf_51)) (L_iload_n (x := when_) 4 X dX7_answerOf_52 rfl rfl) (fun v0 v1 st mm a b hd hc hs h => g_callS (st := st) X hT htr (M_X7_has v0 v1) lk_X7_has st_X7_has ml_X7_180 rfl (by rw [hR]; exact ⟨Nat.le_of_ble_eq_true rfl, Nat.le_of_ble_eq_true rfl⟩) (Nat.le_trans hd (by decide)) ⟨hc, hs⟩ dX7_answerOf_53 h)) (Z_ne_F X dX7_answerOf_56 (by decide)))) (S_b1 X dX7_answerOf_59 dX7_answerOf_60 (by decide)) (S_b0 X dX7_answerOf_63)) (fun v0 v1 v2 v3 st mm a b hd hc hs h => g_callVo (st := st) (cI := 8) X hT htr rfl (fun q => M_X7_goes q v1 v2 v3) lk_X7_goes im_X7_goes se_X7_goes ml_X7_153 rfl (by rw [hR]; exact ⟨Nat.le_of_ble_eq_true rfl, Nat.le_of_ble_eq_true rfl⟩) (Nat.le_trans hd (by decide)) ⟨hc, hs⟩ dX7_answerOf_64 h)) (Z_ne_T X dX7_answerOf_67 (by decide))))
  (SB_retI X C hr dX7_answerOf_71 (L_iconst (v := 0) X dX7_answerOf_70 (by decide)))
  (SB_retI X C hr dX7_answerOf_102 (XE_tern (CE_1 (XE_2 wI (XE_2 wI (XE_2 (pB := pI) wR (L_aload_n (r := (some this)) 1 X dX7_answerOf_72 rfl rfl) (L_iload_n (x := its_) 2 X dX7_answerOf_73 rfl rfl) (fun v0 v1 st mm a b hd hc hs h => g_callVo (st := st) (cI := 8) X hT htr rfl (fun q => M_X7_asked q v1) lk_X7_asked im_X7_asked se_X7_asked ml_X7_246 rfl (by rw [hR]; exact ⟨Nat.le_of_ble_eq_true rfl, Nat.le_of_ble_eq_true rfl⟩) (Nat.le_trans hd (by decide)) ⟨hc, hs⟩ dX7_answerOf_74 h)) (L_iload_n (x := person_) 3 X dX7_answerOf_77 rfl rfl) (O_ishr X dX7_answerOf_78)) (L_iconst (v := 1) X dX7_answerOf_79 (by decide)) (O_iand X dX7_answerOf_80)) (Z_eq_F X dX7_answerOf_81 (by decide))) (L_iconst (v := (-1)) X dX7_answerOf_84 (by decide)) (S_goto X dX7_answerOf_85 (by decide)) (XE_6 (pB := pI) wR wI wI wI wI (L_aload_n (r := (some this)) 1 X dX7_answerOf_88 rfl rfl) (L_iload_n (x := its_) 2 X dX7_answerOf_89 rfl rfl) (L_iload_n (x := person_) 3 X dX7_answerOf_90 rfl rfl) (L_iload_n (x := when_) 4 X dX7_answerOf_91 rfl rfl) (XE_2 wR (XE_1 (L_aload_n (r := (some this)) 1 X dX7_answerOf_92 rfl rfl) (O_gr (c := 8) (j := 5) X rfl inW7 (by decide) fl_X7_22 rfl dX7_answerOf_93)) (L_iload_n (x := its_) 2 X dX7_answerOf_96 rfl rfl) (O_ai X dX7_answerOf_97)) (L_iconst (v := 0) X dX7_answerOf_98 (by decide)) (fun v0 v1 v2 v3 v4 v5 st mm a b hd hc hs h => g_callVo (st := st) (cI := 8) X hT htr rfl (fun q => M_X7_answers q v1 v2 v3 v4 v5) lk_X7_answers im_X7_answers se_X7_answers ml_X7_339 rfl (by rw [hR]; exact ⟨Nat.le_of_ble_eq_true rfl, Nat.le_of_ble_eq_true rfl⟩) (Nat.le_trans hd (by decide)) ⟨hc, hs⟩ dX7_answerOf_99 h)))))) h (by rw [hR]; decide) (by rw [hR]; decide)
theorem dX7_answerByLog_0 : decode cX7_answerByLog 0 = .ok (.aload_n 0, 1) := by decide +kernel
theorem dX7_answerByLog_1 : decode cX7_answerByLog 1 = .ok (.iload_n 1, 1) := by decide +kernel
theorem dX7_answerByLog_2 : decode cX7_answerByLog 2 = .ok (.iload_n 2, 1) := by decide +kernel
theorem dX7_answerByLog_3 : decode cX7_answerByLog 3 = .ok (.iload_n 3, 1) := by decide +kernel
theorem dX7_answerByLog_4 : decode cX7_answerByLog 4 = .ok (.invokevirtual 346, 3) := by decide +kernel
theorem dX7_answerByLog_7 : decode cX7_answerByLog 7 = .ok (.ireturn, 1) := by decide +kernel
theorem lk_X7_answerByLog : LK yX7_answerByLog cX7_answerByLog 4 (some .int) 3 := ⟨qW_at 1788 (by decide +kernel) rfl, qW_at 78 (by decide +kernel) rfl, by decide, by decide, by decide +kernel⟩
theorem im_X7_answerByLog : Cond.instanceMethod yX7_answerByLog ∈ qW := qW_at 1786 (by decide +kernel) rfl
theorem se_X7_answerByLog : Cond.selects RX7 yX7_answerByLog yX7_answerByLog ∈ qW := qW_at 1787 (by decide +kernel) rfl
def F_X7_answerByLog (this : Nat) (its_ : Int32) (person_ : Int32) (when_ : Int32) : QX Int32 :=
  (xb (xp (some this)) fun v1 => xb (xp its_) fun v2 => xb (xp person_) fun v3 => xb (xp when_) fun v4 => xo 8 v1 fun q => F_X7_answerOf q v2 v3 v4)
set_option maxRecDepth 100000 in
set_option maxHeartbeats 4000000 in
theorem M_X7_answerByLog (this : Nat) (its_ : Int32) (person_ : Int32) (when_ : Int32) : MM yX7_answerByLog cX7_answerByLog 4 (some .int) 4 98 0 0 encI [.ref this, .int its_, .int person_, .int when_] (F_X7_answerByLog this its_ person_ when_) := by
  refine MM_of (env0 := [(0, va_rf (some this)), (1, .int its_), (2, .int person_), (3, .int when_)]) (by decide) (by exact Nat.le_of_ble_eq_true rfl) (by rfl) (fun k mm res X C hR hN hr hname h => ?_)
  have X : CX k cX7_answerByLog RX7 := X
  have hT : TH k (fun e m' => res = (.error e, m')) := TH_of C
  have htr := C.2.2.2.1
  unfold F_X7_answerByLog at h
  exact SB_go (T := fun e m' => res = (.error e, m')) (RET := fun v m' => res = (.ok v, m')) (SB_retI X C hr dX7_answerByLog_7 (XE_4 (pB := pI) wR wI wI (L_aload_n (r := (some this)) 0 X dX7_answerByLog_0 rfl rfl) (L_iload_n (x := its_) 1 X dX7_answerByLog_1 rfl rfl) (L_iload_n (x := person_) 2 X dX7_answerByLog_2 rfl rfl) (L_iload_n (x := when_) 3 X dX7_answerByLog_3 rfl rfl) (fun v0 v1 v2 v3 st mm a b hd hc hs h => g_callVo (st := st) (cI := 8) X hT htr rfl (fun q => M_X7_answerOf q v1 v2 v3) lk_X7_answerOf im_X7_answerOf se_X7_answerOf ml_X7_346 rfl (by rw [hR]; exact ⟨Nat.le_of_ble_eq_true rfl, Nat.le_of_ble_eq_true rfl⟩) (Nat.le_trans hd (by decide)) ⟨hc, hs⟩ dX7_answerByLog_4 h))) h (by rw [hR]; decide) (by rw [hR]; decide)
theorem dX7_agrees_0 : decode cX7_agrees 0 = .ok (.aload_n 0, 1) := by decide +kernel
theorem dX7_agrees_1 : decode cX7_agrees 1 = .ok (.aload_n 0, 1) := by decide +kernel
theorem dX7_agrees_2 : decode cX7_agrees 2 = .ok (.iload_n 1, 1) := by decide +kernel
theorem dX7_agrees_3 : decode cX7_agrees 3 = .ok (.invokevirtual 211, 3) := by decide +kernel
theorem dX7_agrees_6 : decode cX7_agrees 6 = .ok (.iconst 1, 1) := by decide +kernel
theorem dX7_agrees_7 : decode cX7_agrees 7 = .ok (.iconst 1, 1) := by decide +kernel
theorem dX7_agrees_8 : decode cX7_agrees 8 = .ok (.invokevirtual 153, 3) := by decide +kernel
theorem dX7_agrees_11 : decode cX7_agrees 11 = .ok (.ifCond .eq 11, 3) := by decide +kernel
theorem dX7_agrees_14 : decode cX7_agrees 14 = .ok (.aload_n 0, 1) := by decide +kernel
theorem dX7_agrees_15 : decode cX7_agrees 15 = .ok (.iload_n 1, 1) := by decide +kernel
theorem dX7_agrees_16 : decode cX7_agrees 16 = .ok (.invokevirtual 214, 3) := by decide +kernel
theorem dX7_agrees_19 : decode cX7_agrees 19 = .ok (.ifCond .ne 5, 3) := by decide +kernel
theorem dX7_agrees_22 : decode cX7_agrees 22 = .ok (.iconst 0, 1) := by decide +kernel
theorem dX7_agrees_23 : decode cX7_agrees 23 = .ok (.ireturn, 1) := by decide +kernel
theorem dX7_agrees_24 : decode cX7_agrees 24 = .ok (.aload_n 0, 1) := by decide +kernel
theorem dX7_agrees_25 : decode cX7_agrees 25 = .ok (.iload_n 1, 1) := by decide +kernel
theorem dX7_agrees_26 : decode cX7_agrees 26 = .ok (.invokevirtual 246, 3) := by decide +kernel
theorem dX7_agrees_29 : decode cX7_agrees 29 = .ok (.istore_n 2, 1) := by decide +kernel
theorem dX7_agrees_30 : decode cX7_agrees 30 = .ok (.iconst 1, 1) := by decide +kernel
theorem dX7_agrees_31 : decode cX7_agrees 31 = .ok (.istore_n 3, 1) := by decide +kernel
theorem dX7_agrees_32 : decode cX7_agrees 32 = .ok (.iconst 0, 1) := by decide +kernel
theorem dX7_agrees_33 : decode cX7_agrees 33 = .ok (.istore 4, 2) := by decide +kernel
theorem dX7_agrees_35 : decode cX7_agrees 35 = .ok (.iload 4, 2) := by decide +kernel
theorem dX7_agrees_37 : decode cX7_agrees 37 = .ok (.iconst 5, 1) := by decide +kernel
theorem dX7_agrees_38 : decode cX7_agrees 38 = .ok (.if_icmp .ge 146, 3) := by decide +kernel
theorem dX7_agrees_41 : decode cX7_agrees 41 = .ok (.iload_n 2, 1) := by decide +kernel
theorem dX7_agrees_42 : decode cX7_agrees 42 = .ok (.iload 4, 2) := by decide +kernel
theorem dX7_agrees_44 : decode cX7_agrees 44 = .ok (.ishr, 1) := by decide +kernel
theorem dX7_agrees_45 : decode cX7_agrees 45 = .ok (.iconst 1, 1) := by decide +kernel
theorem dX7_agrees_46 : decode cX7_agrees 46 = .ok (.iand, 1) := by decide +kernel
theorem dX7_agrees_47 : decode cX7_agrees 47 = .ok (.iconst 1, 1) := by decide +kernel
theorem dX7_agrees_48 : decode cX7_agrees 48 = .ok (.if_icmp .ne 7, 3) := by decide +kernel
theorem dX7_agrees_51 : decode cX7_agrees 51 = .ok (.iconst 1, 1) := by decide +kernel
theorem dX7_agrees_52 : decode cX7_agrees 52 = .ok (.goto 4, 3) := by decide +kernel
theorem dX7_agrees_55 : decode cX7_agrees 55 = .ok (.iconst 0, 1) := by decide +kernel
theorem dX7_agrees_56 : decode cX7_agrees 56 = .ok (.istore 5, 2) := by decide +kernel
theorem dX7_agrees_58 : decode cX7_agrees 58 = .ok (.iload_n 3, 1) := by decide +kernel
theorem dX7_agrees_59 : decode cX7_agrees 59 = .ok (.ifCond .eq 32, 3) := by decide +kernel
theorem dX7_agrees_62 : decode cX7_agrees 62 = .ok (.iload 5, 2) := by decide +kernel
theorem dX7_agrees_64 : decode cX7_agrees 64 = .ok (.ifCond .eq 23, 3) := by decide +kernel
theorem dX7_agrees_67 : decode cX7_agrees 67 = .ok (.aload_n 0, 1) := by decide +kernel
theorem dX7_agrees_68 : decode cX7_agrees 68 = .ok (.getfield 81, 3) := by decide +kernel
theorem dX7_agrees_71 : decode cX7_agrees 71 = .ok (.iload 4, 2) := by decide +kernel
theorem dX7_agrees_73 : decode cX7_agrees 73 = .ok (.iload_n 1, 1) := by decide +kernel
theorem dX7_agrees_74 : decode cX7_agrees 74 = .ok (.invokestatic 171, 3) := by decide +kernel
theorem dX7_agrees_77 : decode cX7_agrees 77 = .ok (.iaload, 1) := by decide +kernel
theorem dX7_agrees_78 : decode cX7_agrees 78 = .ok (.aload_n 0, 1) := by decide +kernel
theorem dX7_agrees_79 : decode cX7_agrees 79 = .ok (.getfield 22, 3) := by decide +kernel
theorem dX7_agrees_82 : decode cX7_agrees 82 = .ok (.iload_n 1, 1) := by decide +kernel
theorem dX7_agrees_83 : decode cX7_agrees 83 = .ok (.iaload, 1) := by decide +kernel
theorem dX7_agrees_84 : decode cX7_agrees 84 = .ok (.if_icmp .ne 7, 3) := by decide +kernel
theorem dX7_agrees_87 : decode cX7_agrees 87 = .ok (.iconst 1, 1) := by decide +kernel
theorem dX7_agrees_88 : decode cX7_agrees 88 = .ok (.goto 4, 3) := by decide +kernel
theorem dX7_agrees_91 : decode cX7_agrees 91 = .ok (.iconst 0, 1) := by decide +kernel
theorem dX7_agrees_92 : decode cX7_agrees 92 = .ok (.istore_n 3, 1) := by decide +kernel
theorem dX7_agrees_93 : decode cX7_agrees 93 = .ok (.iconst 0, 1) := by decide +kernel
theorem dX7_agrees_94 : decode cX7_agrees 94 = .ok (.istore 6, 2) := by decide +kernel
theorem dX7_agrees_96 : decode cX7_agrees 96 = .ok (.iload 6, 2) := by decide +kernel
theorem dX7_agrees_98 : decode cX7_agrees 98 = .ok (.bipush 60, 2) := by decide +kernel
theorem dX7_agrees_100 : decode cX7_agrees 100 = .ok (.if_icmp .ge 78, 3) := by decide +kernel
theorem dX7_agrees_103 : decode cX7_agrees 103 = .ok (.iload 5, 2) := by decide +kernel
theorem dX7_agrees_105 : decode cX7_agrees 105 = .ok (.ifCond .eq 73, 3) := by decide +kernel
theorem dX7_agrees_108 : decode cX7_agrees 108 = .ok (.iload_n 3, 1) := by decide +kernel
theorem dX7_agrees_109 : decode cX7_agrees 109 = .ok (.ifCond .eq 69, 3) := by decide +kernel
theorem dX7_agrees_112 : decode cX7_agrees 112 = .ok (.aload_n 0, 1) := by decide +kernel
theorem dX7_agrees_113 : decode cX7_agrees 113 = .ok (.getfield 75, 3) := by decide +kernel
theorem dX7_agrees_116 : decode cX7_agrees 116 = .ok (.aload_n 0, 1) := by decide +kernel
theorem dX7_agrees_117 : decode cX7_agrees 117 = .ok (.getfield 22, 3) := by decide +kernel
theorem dX7_agrees_120 : decode cX7_agrees 120 = .ok (.iload_n 1, 1) := by decide +kernel
theorem dX7_agrees_121 : decode cX7_agrees 121 = .ok (.iaload, 1) := by decide +kernel
theorem dX7_agrees_122 : decode cX7_agrees 122 = .ok (.laload, 1) := by decide +kernel
theorem dX7_agrees_123 : decode cX7_agrees 123 = .ok (.iload 6, 2) := by decide +kernel
theorem dX7_agrees_125 : decode cX7_agrees 125 = .ok (.invokestatic 180, 3) := by decide +kernel
theorem dX7_agrees_128 : decode cX7_agrees 128 = .ok (.ifCond .eq 38, 3) := by decide +kernel
theorem dX7_agrees_131 : decode cX7_agrees 131 = .ok (.aload_n 0, 1) := by decide +kernel
theorem dX7_agrees_132 : decode cX7_agrees 132 = .ok (.iload_n 1, 1) := by decide +kernel
theorem dX7_agrees_133 : decode cX7_agrees 133 = .ok (.iload 4, 2) := by decide +kernel
theorem dX7_agrees_135 : decode cX7_agrees 135 = .ok (.iload 6, 2) := by decide +kernel
theorem dX7_agrees_137 : decode cX7_agrees 137 = .ok (.aload_n 0, 1) := by decide +kernel
theorem dX7_agrees_138 : decode cX7_agrees 138 = .ok (.getfield 22, 3) := by decide +kernel
theorem dX7_agrees_141 : decode cX7_agrees 141 = .ok (.iload_n 1, 1) := by decide +kernel
theorem dX7_agrees_142 : decode cX7_agrees 142 = .ok (.iaload, 1) := by decide +kernel
theorem dX7_agrees_143 : decode cX7_agrees 143 = .ok (.iconst 1, 1) := by decide +kernel
theorem dX7_agrees_144 : decode cX7_agrees 144 = .ok (.invokevirtual 339, 3) := by decide +kernel
theorem dX7_agrees_147 : decode cX7_agrees 147 = .ok (.aload_n 0, 1) := by decide +kernel
theorem dX7_agrees_148 : decode cX7_agrees 148 = .ok (.iload_n 1, 1) := by decide +kernel
theorem dX7_agrees_149 : decode cX7_agrees 149 = .ok (.iload 4, 2) := by decide +kernel
theorem dX7_agrees_151 : decode cX7_agrees 151 = .ok (.iload 6, 2) := by decide +kernel
theorem dX7_agrees_153 : decode cX7_agrees 153 = .ok (.aload_n 0, 1) := by decide +kernel
theorem dX7_agrees_154 : decode cX7_agrees 154 = .ok (.getfield 22, 3) := by decide +kernel
theorem dX7_agrees_157 : decode cX7_agrees 157 = .ok (.iload_n 1, 1) := by decide +kernel
theorem dX7_agrees_158 : decode cX7_agrees 158 = .ok (.iaload, 1) := by decide +kernel
theorem dX7_agrees_159 : decode cX7_agrees 159 = .ok (.iconst 0, 1) := by decide +kernel
theorem dX7_agrees_160 : decode cX7_agrees 160 = .ok (.invokevirtual 339, 3) := by decide +kernel
theorem dX7_agrees_163 : decode cX7_agrees 163 = .ok (.if_icmp .ne 7, 3) := by decide +kernel
theorem dX7_agrees_166 : decode cX7_agrees 166 = .ok (.iconst 1, 1) := by decide +kernel
theorem dX7_agrees_167 : decode cX7_agrees 167 = .ok (.goto 4, 3) := by decide +kernel
theorem dX7_agrees_170 : decode cX7_agrees 170 = .ok (.iconst 0, 1) := by decide +kernel
theorem dX7_agrees_171 : decode cX7_agrees 171 = .ok (.istore_n 3, 1) := by decide +kernel
theorem dX7_agrees_172 : decode cX7_agrees 172 = .ok (.iinc 6 1, 3) := by decide +kernel
theorem dX7_agrees_175 : decode cX7_agrees 175 = .ok (.goto (-79), 3) := by decide +kernel
theorem dX7_agrees_178 : decode cX7_agrees 178 = .ok (.iinc 4 1, 3) := by decide +kernel
theorem dX7_agrees_181 : decode cX7_agrees 181 = .ok (.goto (-146), 3) := by decide +kernel
theorem dX7_agrees_184 : decode cX7_agrees 184 = .ok (.iload_n 3, 1) := by decide +kernel
theorem dX7_agrees_185 : decode cX7_agrees 185 = .ok (.ireturn, 1) := by decide +kernel
theorem lk_X7_agrees : LK yX7_agrees cX7_agrees 7 (some .boolean) 1 := ⟨qW_at 1793 (by decide +kernel) rfl, qW_at 78 (by decide +kernel) rfl, by decide, by decide, by decide +kernel⟩
theorem im_X7_agrees : Cond.instanceMethod yX7_agrees ∈ qW := qW_at 1791 (by decide +kernel) rfl
theorem se_X7_agrees : Cond.selects RX7 yX7_agrees yX7_agrees ∈ qW := qW_at 1792 (by decide +kernel) rfl
def F_X7_agrees (this : Nat) (its_ : Int32) : QX Int32 :=
  (xb (xb (xb (xb (xb (xp (some this)) fun v3 => xb (xb (xp (some this)) fun v1 => xb (xp its_) fun v2 => xo 8 v1 fun q => F_X7_isMeeting q v2) fun v4 => xb (xp (1 : Int32)) fun v5 => xb (xp (1 : Int32)) fun v6 => xo 8 v3 fun q => F_X7_goes q v4 v5 v6) fun v7 => xp (decide (¬ v7 = 0))) fun v8 => xp (!v8)) fun v13 => if v13 then xp true else (xb (xb (xb (xp (some this)) fun v9 => xb (xp its_) fun v10 => xo 8 v9 fun q => F_X7_isHeld q v10) fun v11 => xp (decide (¬ v11 = 0))) fun v12 => xp (!v12))) fun v90 => if v90 then (xb (xp (0 : Int32)) xz) else
  (xb (xb (xp (some this)) fun v14 => xb (xp its_) fun v15 => xo 8 v14 fun q => F_X7_asked q v15) fun set_16 =>
  (xb (xp (1 : Int32)) fun is_17 =>
  (xb (xp (0 : Int32)) fun person_18 =>
  (xb (xl 2000 (fun (s19 : Int32 × Int32) => (xb (xp s19.2) fun v20 => xb (xp (5 : Int32)) fun v21 => xp (decide (v20 < v21)))) (fun (s19 : Int32 × Int32) =>
  (xb (xb (xb (xb (xb (xp set_16) fun v22 => xb (xp s19.2) fun v23 => (xp (v22 >>> (v23 &&& 31)))) fun v24 => xb (xp (1 : Int32)) fun v25 => (xp (v24 &&& v25))) fun v26 => xb (xp (1 : Int32)) fun v27 => xp (decide (v26 = v27))) fun v28 => xp (b2i v28)) fun asks_29 =>
  (xb (xb (xb (xb (xp s19.1) fun v30 => xp (decide (¬ v30 = 0))) fun v44 => if v44 then (xb (xb (xb (xp asks_29) fun v31 => xp (decide (¬ v31 = 0))) fun v32 => xp (!v32)) fun v43 => if v43 then xp true else (xb (xb (xb (xp (some this)) fun v33 => xgr 8 25 v33) fun v36 => xb (xb (xp s19.2) fun v34 => xb (xp its_) fun v35 => F_X7_at v34 v35) fun v37 => xai 0 v36 v37) fun v38 => xb (xb (xb (xp (some this)) fun v39 => xgr 8 5 v39) fun v40 => xb (xp its_) fun v41 => xai 0 v40 v41) fun v42 => xp (decide (v38 = v42)))) else xp false) fun v45 => xp (b2i v45)) fun is_46 =>
  (xb (xp (0 : Int32)) fun k_47 =>
  (xb (xl 2000 (fun (s48 : Int32 × Int32) => (xb (xb (xb (xp s48.2) fun v49 => xb (xp (60 : Int32)) fun v50 => xp (decide (v49 < v50))) fun v52 => if v52 then (xb (xp asks_29) fun v51 => xp (decide (¬ v51 = 0))) else xp false) fun v54 => if v54 then (xb (xp s48.1) fun v53 => xp (decide (¬ v53 = 0))) else xp false)) (fun (s48 : Int32 × Int32) =>
  (xb (xb (xb (xb (xb (xb (xb (xb (xp (some this)) fun v55 => xgr 8 23 v55) fun v59 => xb (xb (xb (xp (some this)) fun v56 => xgr 8 5 v56) fun v57 => xb (xp its_) fun v58 => xai 0 v57 v58) fun v60 => xal v59 v60) fun v61 => xb (xp s48.2) fun v62 => F_X7_has v61 v62) fun v63 => xp (decide (¬ v63 = 0))) fun v64 => xp (!v64)) fun v85 => if v85 then xp true else (xb (xb (xp (some this)) fun v68 => xb (xp its_) fun v69 => xb (xp s19.2) fun v70 => xb (xp s48.2) fun v71 => xb (xb (xb (xp (some this)) fun v65 => xgr 8 5 v65) fun v66 => xb (xp its_) fun v67 => xai 0 v66 v67) fun v72 => xb (xp (1 : Int32)) fun v73 => xo 8 v68 fun q => F_X7_answers q v69 v70 v71 v72 v73) fun v74 => xb (xb (xp (some this)) fun v78 => xb (xp its_) fun v79 => xb (xp s19.2) fun v80 => xb (xp s48.2) fun v81 => xb (xb (xb (xp (some this)) fun v75 => xgr 8 5 v75) fun v76 => xb (xp its_) fun v77 => xai 0 v76 v77) fun v82 => xb (xp (0 : Int32)) fun v83 => xo 8 v78 fun q => F_X7_answers q v79 v80 v81 v82 v83) fun v84 => xp (decide (v74 = v84)))) fun v86 => xp (b2i v86)) fun is_87 =>
  (xp (is_87, (s48.2 + 1))))) (is_46, k_47)) fun s88 =>
  (xp (s88.1, (s19.2 + 1)))))))) (is_17, person_18)) fun s89 =>
  (xb (xp s89.1) xz))))))
set_option maxRecDepth 100000 in
set_option maxHeartbeats 4000000 in
theorem M_X7_agrees (this : Nat) (its_ : Int32) : MM yX7_agrees cX7_agrees 7 (some .boolean) 3 74 0 0 encI [.ref this, .int its_] (F_X7_agrees this its_) := by
  refine MM_of (env0 := [(0, va_rf (some this)), (1, .int its_)]) (by decide) (by exact Nat.le_of_ble_eq_true rfl) (by rfl) (fun k mm res X C hR hN hr hname h => ?_)
  have X : CX k cX7_agrees RX7 := X
  have hT : TH k (fun e m' => res = (.error e, m')) := TH_of C
  have htr := C.2.2.2.1
  unfold F_X7_agrees at h
  exact SB_go (T := fun e m' => res = (.error e, m')) (RET := fun v m' => res = (.ok v, m')) (SB_if (CE_or (CE_not (CE_1 (XE_4 (pB := pI) wR wI wI (L_aload_n (r := (some this)) 0 X dX7_agrees_0 rfl rfl) (XE_2 (pB := pI) wR (L_aload_n (r := (some this)) 0 X dX7_agrees_1 rfl rfl) (L_iload_n (x := its_) 1 X dX7_agrees_2 rfl rfl) (fun v0 v1 st mm a b hd hc hs h => g_callVo (st := st) (cI := 8) X hT htr rfl (fun q => M_X7_isMeeting q v1) lk_X7_isMeeting im_X7_isMeeting se_X7_isMeeting ml_X7_211 rfl (by rw [hR]; exact ⟨Nat.le_of_ble_eq_true rfl, Nat.le_of_ble_eq_true rfl⟩) (Nat.le_trans hd (by decide)) ⟨hc, hs⟩ dX7_agrees_3 h)) (L_iconst (v := 1) X dX7_agrees_6 (by decide)) (L_iconst (v := 1) X dX7_agrees_7 (by decide)) (fun v0 v1 v2 v3 st mm a b hd hc hs h => g_callVo (st := st) (cI := 8) X hT htr rfl (fun q => M_X7_goes q v1 v2 v3) lk_X7_goes im_X7_goes se_X7_goes ml_X7_153 rfl (by rw [hR]; exact ⟨Nat.le_of_ble_eq_true rfl, Nat.le_of_ble_eq_true rfl⟩) (Nat.le_trans hd (by decide)) ⟨hc, hs⟩ dX7_agrees_8 h)) (Z_ne_F X dX7_agrees_11 (by decide)))) (CE_not (CE_1 (XE_2 (pB := pI) wR (L_aload_n (r := (some this)) 0 X dX7_agrees_14 rfl rfl) (L_iload_n (x := its_) 1 X dX7_agrees_15 rfl rfl) (fun v0 v1 st mm a b hd hc hs h => g_callVo (st := st) (cI := 8) X hT htr rfl (fun q => M_X7_isHeld q v1) lk_X7_isHeld im_X7_isHeld se_X7_isHeld ml_X7_214 rfl (by rw [hR]; exact ⟨Nat.le_of_ble_eq_true rfl, Nat.le_of_ble_eq_true rfl⟩) (Nat.le_trans hd (by decide)) ⟨hc, hs⟩ dX7_agrees_16 h)) (Z_ne_T X dX7_agrees_19 (by decide)))))
  (SB_retZ X C hr dX7_agrees_23 (L_iconst (v := 0) X dX7_agrees_22 (by decide)))
  (SB_let (XE_2 (pB := pI) wR (L_aload_n (r := (some this)) 0 X dX7_agrees_24 rfl rfl) (L_iload_n (x := its_) 1 X dX7_agrees_25 rfl rfl) (fun v0 v1 st mm a b hd hc hs h => g_callVo (st := st) (cI := 8) X hT htr rfl (fun q => M_X7_asked q v1) lk_X7_asked im_X7_asked se_X7_asked ml_X7_246 rfl (by rw [hR]; exact ⟨Nat.le_of_ble_eq_true rfl, Nat.le_of_ble_eq_true rfl⟩) (Nat.le_trans hd (by decide)) ⟨hc, hs⟩ dX7_agrees_26 h)) (S_istore_n (ev := fun set_16 => [(2, .int set_16), (0, va_rf (some this)), (1, .int its_)]) X dX7_agrees_29 rfl (by rw [hN]; decide) (fun _ => rfl)) fun set_16 =>
  (SB_let (L_iconst (v := 1) X dX7_agrees_30 (by decide)) (S_istore_n (ev := fun is_17 => [(3, .int is_17), (2, .int set_16), (0, va_rf (some this)), (1, .int its_)]) X dX7_agrees_31 rfl (by rw [hN]; decide) (fun _ => rfl)) fun is_17 =>
  (SB_let (L_iconst (v := 0) X dX7_agrees_32 (by decide)) (S_istore (ev := fun person_18 => [(4, .int person_18), (3, .int is_17), (2, .int set_16), (0, va_rf (some this)), (1, .int its_)]) X dX7_agrees_33 (by rw [hN]; decide) (fun _ => rfl)) fun person_18 =>
  (SB_seq (ST_loop (σ := Int32 × Int32) (upd := (fun (s : Int32 × Int32) => [(4, .int s.2), (3, .int s.1), (2, .int set_16), (0, va_rf (some this)), (1, .int its_)])) (s0 := (is_17, person_18)) (n := 2000) (fun mm a b h => GG_sub [0, 1, 2, 3, 4] rfl h)
  (fun s19 => (CE_2 wI (L_iload (x := s19.2) 0 X dX7_agrees_35 rfl) (L_iconst (v := 5) X dX7_agrees_37 (by decide)) (C_lt_F X dX7_agrees_38 (by decide))))
  (fun s19 => (ST_post (ST_let (XE_b2i (CE_2 wI (XE_2 wI (XE_2 wI (L_iload_n (x := set_16) 2 X dX7_agrees_41 rfl rfl) (L_iload (x := s19.2) 0 X dX7_agrees_42 rfl) (O_ishr X dX7_agrees_44)) (L_iconst (v := 1) X dX7_agrees_45 (by decide)) (O_iand X dX7_agrees_46)) (L_iconst (v := 1) X dX7_agrees_47 (by decide)) (C_eq_F X dX7_agrees_48 (by decide))) (S_b1 X dX7_agrees_51 dX7_agrees_52 (by decide)) (S_b0 X dX7_agrees_55)) (S_istore (ev := fun asks_29 => [(5, .int asks_29), (4, .int s19.2), (3, .int s19.1), (2, .int set_16), (0, va_rf (some this)), (1, .int its_)]) X dX7_agrees_56 (by rw [hN]; decide) (fun _ => rfl)) fun asks_29 =>
  (ST_let (XE_b2i (CE_and (CE_1 (L_iload_n (x := s19.1) 2 X dX7_agrees_58 rfl rfl) (Z_ne_F X dX7_agrees_59 (by decide))) (CE_or (CE_not (CE_1 (L_iload (x := asks_29) 0 X dX7_agrees_62 rfl) (Z_ne_F X dX7_agrees_64 (by decide)))) (CE_2 wI (XE_2 wR (XE_1 (L_aload_n (r := (some this)) 4 X dX7_agrees_67 rfl rfl) (O_gr (c := 8) (j := 25) X rfl inW7 (by decide) fl_X7_81 rfl dX7_agrees_68)) (XE_2 (pB := pI) wI (L_iload (x := s19.2) 1 X dX7_agrees_71 rfl) (L_iload_n (x := its_) 5 X dX7_agrees_73 rfl rfl) (fun v0 v1 st mm a b hd hc hs h => g_callS (st := st) X hT htr (M_X7_at v0 v1) lk_X7_at st_X7_at ml_X7_171 rfl (by rw [hR]; exact ⟨Nat.le_of_ble_eq_true rfl, Nat.le_of_ble_eq_true rfl⟩) (Nat.le_trans hd (by decide)) ⟨hc, hs⟩ dX7_agrees_74 h)) (O_ai X dX7_agrees_77)) (XE_2 wR (XE_1 (L_aload_n (r := (some this)) 4 X dX7_agrees_78 rfl rfl) (O_gr (c := 8) (j := 5) X rfl inW7 (by decide) fl_X7_22 rfl dX7_agrees_79)) (L_iload_n (x := its_) 5 X dX7_agrees_82 rfl rfl) (O_ai X dX7_agrees_83)) (C_eq_F X dX7_agrees_84 (by decide))))) (S_b1 X dX7_agrees_87 dX7_agrees_88 (by decide)) (S_b0 X dX7_agrees_91)) (S_istore_n (ev := fun is_46 => [(3, .int is_46), (5, .int asks_29), (4, .int s19.2), (2, .int set_16), (0, va_rf (some this)), (1, .int its_)]) X dX7_agrees_92 rfl (by rw [hN]; decide) (fun _ => rfl)) fun is_46 =>
  (ST_let (L_iconst (v := 0) X dX7_agrees_93 (by decide)) (S_istore (ev := fun k_47 => [(6, .int k_47), (3, .int is_46), (5, .int asks_29), (4, .int s19.2), (2, .int set_16), (0, va_rf (some this)), (1, .int its_)]) X dX7_agrees_94 (by rw [hN]; decide) (fun _ => rfl)) fun k_47 =>
  (ST_seq (ST_loop (σ := Int32 × Int32) (upd := (fun (s : Int32 × Int32) => [(6, .int s.2), (3, .int s.1), (5, .int asks_29), (4, .int s19.2), (2, .int set_16), (0, va_rf (some this)), (1, .int its_)])) (s0 := (is_46, k_47)) (n := 2000) (fun mm a b h => GG_sub [0, 1, 2, 3, 4, 5, 6] rfl h)
  (fun s48 => (CE_and (CE_and (CE_2 wI (L_iload (x := s48.2) 0 X dX7_agrees_96 rfl) (L_bipush (v := (60)) X dX7_agrees_98 (by decide)) (C_lt_F X dX7_agrees_100 (by decide))) (CE_1 (L_iload (x := asks_29) 2 X dX7_agrees_103 rfl) (Z_ne_F X dX7_agrees_105 (by decide)))) (CE_1 (L_iload_n (x := s48.1) 1 X dX7_agrees_108 rfl rfl) (Z_ne_F X dX7_agrees_109 (by decide)))))
  (fun s48 => (ST_post (ST_let (XE_b2i (CE_or (CE_not (CE_1 (XE_2 (pB := pI) wL (XE_2 wR (XE_1 (L_aload_n (r := (some this)) 5 X dX7_agrees_112 rfl rfl) (O_gr (c := 8) (j := 23) X rfl inW7 (by decide) fl_X7_75 rfl dX7_agrees_113)) (XE_2 wR (XE_1 (L_aload_n (r := (some this)) 5 X dX7_agrees_116 rfl rfl) (O_gr (c := 8) (j := 5) X rfl inW7 (by decide) fl_X7_22 rfl dX7_agrees_117)) (L_iload_n (x := its_) 6 X dX7_agrees_120 rfl rfl) (O_ai X dX7_agrees_121)) (O_al X dX7_agrees_122)) (L_iload (x := s48.2) 0 X dX7_agrees_123 rfl) (fun v0 v1 st mm a b hd hc hs h => g_callS (st := st) X hT htr (M_X7_has v0 v1) lk_X7_has st_X7_has ml_X7_180 rfl (by rw [hR]; exact ⟨Nat.le_of_ble_eq_true rfl, Nat.le_of_ble_eq_true rfl⟩) (Nat.le_trans hd (by decide)) ⟨hc, hs⟩ dX7_agrees_125 h)) (Z_ne_F X dX7_agrees_128 (by decide)))) (CE_2 wI (XE_6 (pB := pI) wR wI wI wI wI (L_aload_n (r := (some this)) 5 X dX7_agrees_131 rfl rfl) (L_iload_n (x := its_) 6 X dX7_agrees_132 rfl rfl) (L_iload (x := s19.2) 3 X dX7_agrees_133 rfl) (L_iload (x := s48.2) 0 X dX7_agrees_135 rfl) (XE_2 wR (XE_1 (L_aload_n (r := (some this)) 5 X dX7_agrees_137 rfl rfl) (O_gr (c := 8) (j := 5) X rfl inW7 (by decide) fl_X7_22 rfl dX7_agrees_138)) (L_iload_n (x := its_) 6 X dX7_agrees_141 rfl rfl) (O_ai X dX7_agrees_142)) (L_iconst (v := 1) X dX7_agrees_143 (by decide)) (fun v0 v1 v2 v3 v4 v5 st mm a b hd hc hs h => g_callVo (st := st) (cI := 8) X hT htr rfl (fun q => M_X7_answers q v1 v2 v3 v4 v5) lk_X7_answers im_X7_answers se_X7_answers ml_X7_339 rfl (by rw [hR]; exact ⟨Nat.le_of_ble_eq_true rfl, Nat.le_of_ble_eq_true rfl⟩) (Nat.le_trans hd (by decide)) ⟨hc, hs⟩ dX7_agrees_144 h)) (XE_6 (pB := pI) wR wI wI wI wI (L_aload_n (r := (some this)) 5 X dX7_agrees_147 rfl rfl) (L_iload_n (x := its_) 6 X dX7_agrees_148 rfl rfl) (L_iload (x := s19.2) 3 X dX7_agrees_149 rfl) (L_iload (x := s48.2) 0 X dX7_agrees_151 rfl) (XE_2 wR (XE_1 (L_aload_n (r := (some this)) 5 X dX7_agrees_153 rfl rfl) (O_gr (c := 8) (j := 5) X rfl inW7 (by decide) fl_X7_22 rfl dX7_agrees_154)) (L_iload_n (x := its_) 6 X dX7_agrees_157 rfl rfl) (O_ai X dX7_agrees_158)) (L_iconst (v := 0) X dX7_agrees_159 (by decide)) (fun v0 v1 v2 v3 v4 v5 st mm a b hd hc hs h => g_callVo (st := st) (cI := 8) X hT htr rfl (fun q => M_X7_answers q v1 v2 v3 v4 v5) lk_X7_answers im_X7_answers se_X7_answers ml_X7_339 rfl (by rw [hR]; exact ⟨Nat.le_of_ble_eq_true rfl, Nat.le_of_ble_eq_true rfl⟩) (Nat.le_trans hd (by decide)) ⟨hc, hs⟩ dX7_agrees_160 h)) (C_eq_F X dX7_agrees_163 (by decide)))) (S_b1 X dX7_agrees_166 dX7_agrees_167 (by decide)) (S_b0 X dX7_agrees_170)) (S_istore_n (ev := fun is_87 => [(3, .int is_87), (6, .int s48.2), (5, .int asks_29), (4, .int s19.2), (2, .int set_16), (0, va_rf (some this)), (1, .int its_)]) X dX7_agrees_171 rfl (by rw [hN]; decide) (fun _ => rfl)) fun is_87 =>
  (ST_pre (env' := [(6, .int (s48.2 + 1)), (3, .int is_87), (5, .int asks_29), (4, .int s19.2), (2, .int set_16), (0, va_rf (some this)), (1, .int its_)]) (S_iinc 1 X dX7_agrees_172 rfl rfl (by rw [hN]; decide) rfl)
  (ST_done (upd := (fun (s : Int32 × Int32) => [(6, .int s.2), (3, .int s.1), (5, .int asks_29), (4, .int s19.2), (2, .int set_16), (0, va_rf (some this)), (1, .int its_)])) (s := (is_87, (s48.2 + 1))) [0, 1, 2, 3, 4, 5, 6] rfl))) fun _ mm a b h => S_goto X dX7_agrees_175 (by decide) [] mm a b h))) fun s88 =>
  (ST_pre (env' := [(4, .int (s19.2 + 1)), (6, .int s88.2), (3, .int s88.1), (5, .int asks_29), (2, .int set_16), (0, va_rf (some this)), (1, .int its_)]) (S_iinc 3 X dX7_agrees_178 rfl rfl (by rw [hN]; decide) rfl)
  (ST_done (upd := (fun (s : Int32 × Int32) => [(4, .int s.2), (3, .int s.1), (2, .int set_16), (0, va_rf (some this)), (1, .int its_)])) (s := (s88.1, (s19.2 + 1))) [0, 2, 4, 5, 6] rfl)))))) fun _ mm a b h => S_goto X dX7_agrees_181 (by decide) [] mm a b h))) fun s89 =>
  (SB_retZ X C hr dX7_agrees_185 (L_iload_n (x := s89.1) 1 X dX7_agrees_184 rfl rfl))))))) h (by rw [hR]; decide) (by rw [hR]; decide)
theorem dX7_proposals_0 : decode cX7_proposals 0 = .ok (.aload_n 0, 1) := by decide +kernel
theorem dX7_proposals_1 : decode cX7_proposals 1 = .ok (.aload_n 0, 1) := by decide +kernel
theorem dX7_proposals_2 : decode cX7_proposals 2 = .ok (.iload_n 1, 1) := by decide +kernel
theorem dX7_proposals_3 : decode cX7_proposals 3 = .ok (.invokevirtual 211, 3) := by decide +kernel
theorem dX7_proposals_6 : decode cX7_proposals 6 = .ok (.iconst 1, 1) := by decide +kernel
theorem dX7_proposals_7 : decode cX7_proposals 7 = .ok (.iconst 1, 1) := by decide +kernel
theorem dX7_proposals_8 : decode cX7_proposals 8 = .ok (.invokevirtual 153, 3) := by decide +kernel
theorem dX7_proposals_11 : decode cX7_proposals 11 = .ok (.ifCond .eq 11, 3) := by decide +kernel
theorem dX7_proposals_14 : decode cX7_proposals 14 = .ok (.aload_n 0, 1) := by decide +kernel
theorem dX7_proposals_15 : decode cX7_proposals 15 = .ok (.iload_n 1, 1) := by decide +kernel
theorem dX7_proposals_16 : decode cX7_proposals 16 = .ok (.invokevirtual 270, 3) := by decide +kernel
theorem dX7_proposals_19 : decode cX7_proposals 19 = .ok (.goto 4, 3) := by decide +kernel
theorem dX7_proposals_22 : decode cX7_proposals 22 = .ok (.iconst 0, 1) := by decide +kernel
theorem dX7_proposals_23 : decode cX7_proposals 23 = .ok (.ireturn, 1) := by decide +kernel
theorem lk_X7_proposals : LK yX7_proposals cX7_proposals 2 (some .int) 1 := ⟨qW_at 1797 (by decide +kernel) rfl, qW_at 78 (by decide +kernel) rfl, by decide, by decide, by decide +kernel⟩
theorem im_X7_proposals : Cond.instanceMethod yX7_proposals ∈ qW := qW_at 1795 (by decide +kernel) rfl
theorem se_X7_proposals : Cond.selects RX7 yX7_proposals yX7_proposals ∈ qW := qW_at 1796 (by decide +kernel) rfl
def F_X7_proposals (this : Nat) (its_ : Int32) : QX Int32 :=
  (xb (xb (xb (xp (some this)) fun v3 => xb (xb (xp (some this)) fun v1 => xb (xp its_) fun v2 => xo 8 v1 fun q => F_X7_isMeeting q v2) fun v4 => xb (xp (1 : Int32)) fun v5 => xb (xp (1 : Int32)) fun v6 => xo 8 v3 fun q => F_X7_goes q v4 v5 v6) fun v7 => xp (decide (¬ v7 = 0))) fun v10 => if v10 then (xb (xp (some this)) fun v8 => xb (xp its_) fun v9 => xo 8 v8 fun q => F_X7_opens q v9) else (xp (0 : Int32)))
set_option maxRecDepth 100000 in
set_option maxHeartbeats 4000000 in
theorem M_X7_proposals (this : Nat) (its_ : Int32) : MM yX7_proposals cX7_proposals 2 (some .int) 3 68 0 0 encI [.ref this, .int its_] (F_X7_proposals this its_) := by
  refine MM_of (env0 := [(0, va_rf (some this)), (1, .int its_)]) (by decide) (by exact Nat.le_of_ble_eq_true rfl) (by rfl) (fun k mm res X C hR hN hr hname h => ?_)
  have X : CX k cX7_proposals RX7 := X
  have hT : TH k (fun e m' => res = (.error e, m')) := TH_of C
  have htr := C.2.2.2.1
  unfold F_X7_proposals at h
  exact SB_go (T := fun e m' => res = (.error e, m')) (RET := fun v m' => res = (.ok v, m')) (SB_retI X C hr dX7_proposals_23 (XE_tern (CE_1 (XE_4 (pB := pI) wR wI wI (L_aload_n (r := (some this)) 0 X dX7_proposals_0 rfl rfl) (XE_2 (pB := pI) wR (L_aload_n (r := (some this)) 0 X dX7_proposals_1 rfl rfl) (L_iload_n (x := its_) 1 X dX7_proposals_2 rfl rfl) (fun v0 v1 st mm a b hd hc hs h => g_callVo (st := st) (cI := 8) X hT htr rfl (fun q => M_X7_isMeeting q v1) lk_X7_isMeeting im_X7_isMeeting se_X7_isMeeting ml_X7_211 rfl (by rw [hR]; exact ⟨Nat.le_of_ble_eq_true rfl, Nat.le_of_ble_eq_true rfl⟩) (Nat.le_trans hd (by decide)) ⟨hc, hs⟩ dX7_proposals_3 h)) (L_iconst (v := 1) X dX7_proposals_6 (by decide)) (L_iconst (v := 1) X dX7_proposals_7 (by decide)) (fun v0 v1 v2 v3 st mm a b hd hc hs h => g_callVo (st := st) (cI := 8) X hT htr rfl (fun q => M_X7_goes q v1 v2 v3) lk_X7_goes im_X7_goes se_X7_goes ml_X7_153 rfl (by rw [hR]; exact ⟨Nat.le_of_ble_eq_true rfl, Nat.le_of_ble_eq_true rfl⟩) (Nat.le_trans hd (by decide)) ⟨hc, hs⟩ dX7_proposals_8 h)) (Z_ne_F X dX7_proposals_11 (by decide))) (XE_2 (pB := pI) wR (L_aload_n (r := (some this)) 0 X dX7_proposals_14 rfl rfl) (L_iload_n (x := its_) 1 X dX7_proposals_15 rfl rfl) (fun v0 v1 st mm a b hd hc hs h => g_callVo (st := st) (cI := 8) X hT htr rfl (fun q => M_X7_opens q v1) lk_X7_opens im_X7_opens se_X7_opens ml_X7_270 rfl (by rw [hR]; exact ⟨Nat.le_of_ble_eq_true rfl, Nat.le_of_ble_eq_true rfl⟩) (Nat.le_trans hd (by decide)) ⟨hc, hs⟩ dX7_proposals_16 h)) (S_goto X dX7_proposals_19 (by decide)) (L_iconst (v := 0) X dX7_proposals_22 (by decide)))) h (by rw [hR]; decide) (by rw [hR]; decide)
theorem dX7_proposalAt_0 : decode cX7_proposalAt 0 = .ok (.aload_n 0, 1) := by decide +kernel
theorem dX7_proposalAt_1 : decode cX7_proposalAt 1 = .ok (.iload_n 1, 1) := by decide +kernel
theorem dX7_proposalAt_2 : decode cX7_proposalAt 2 = .ok (.invokevirtual 211, 3) := by decide +kernel
theorem dX7_proposalAt_5 : decode cX7_proposalAt 5 = .ok (.istore_n 3, 1) := by decide +kernel
theorem dX7_proposalAt_6 : decode cX7_proposalAt 6 = .ok (.aload_n 0, 1) := by decide +kernel
theorem dX7_proposalAt_7 : decode cX7_proposalAt 7 = .ok (.iload_n 3, 1) := by decide +kernel
theorem dX7_proposalAt_8 : decode cX7_proposalAt 8 = .ok (.ifCond .eq 22, 3) := by decide +kernel
theorem dX7_proposalAt_11 : decode cX7_proposalAt 11 = .ok (.iload_n 2, 1) := by decide +kernel
theorem dX7_proposalAt_12 : decode cX7_proposalAt 12 = .ok (.iconst 0, 1) := by decide +kernel
theorem dX7_proposalAt_13 : decode cX7_proposalAt 13 = .ok (.aload_n 0, 1) := by decide +kernel
theorem dX7_proposalAt_14 : decode cX7_proposalAt 14 = .ok (.iload_n 1, 1) := by decide +kernel
theorem dX7_proposalAt_15 : decode cX7_proposalAt 15 = .ok (.invokevirtual 270, 3) := by decide +kernel
theorem dX7_proposalAt_18 : decode cX7_proposalAt 18 = .ok (.iconst 1, 1) := by decide +kernel
theorem dX7_proposalAt_19 : decode cX7_proposalAt 19 = .ok (.isub, 1) := by decide +kernel
theorem dX7_proposalAt_20 : decode cX7_proposalAt 20 = .ok (.invokestatic 139, 3) := by decide +kernel
theorem dX7_proposalAt_23 : decode cX7_proposalAt 23 = .ok (.ifCond .eq 7, 3) := by decide +kernel
theorem dX7_proposalAt_26 : decode cX7_proposalAt 26 = .ok (.iconst 1, 1) := by decide +kernel
theorem dX7_proposalAt_27 : decode cX7_proposalAt 27 = .ok (.goto 4, 3) := by decide +kernel
theorem dX7_proposalAt_30 : decode cX7_proposalAt 30 = .ok (.iconst 0, 1) := by decide +kernel
theorem dX7_proposalAt_31 : decode cX7_proposalAt 31 = .ok (.iconst 1, 1) := by decide +kernel
theorem dX7_proposalAt_32 : decode cX7_proposalAt 32 = .ok (.iconst 1, 1) := by decide +kernel
theorem dX7_proposalAt_33 : decode cX7_proposalAt 33 = .ok (.invokevirtual 153, 3) := by decide +kernel
theorem dX7_proposalAt_36 : decode cX7_proposalAt 36 = .ok (.ifCond .ne 5, 3) := by decide +kernel
theorem dX7_proposalAt_39 : decode cX7_proposalAt 39 = .ok (.iconst 0, 1) := by decide +kernel
theorem dX7_proposalAt_40 : decode cX7_proposalAt 40 = .ok (.ireturn, 1) := by decide +kernel
theorem dX7_proposalAt_41 : decode cX7_proposalAt 41 = .ok (.iload_n 2, 1) := by decide +kernel
theorem dX7_proposalAt_42 : decode cX7_proposalAt 42 = .ok (.istore 4, 2) := by decide +kernel
theorem dX7_proposalAt_44 : decode cX7_proposalAt 44 = .ok (.iconst (-1), 1) := by decide +kernel
theorem dX7_proposalAt_45 : decode cX7_proposalAt 45 = .ok (.istore 5, 2) := by decide +kernel
theorem dX7_proposalAt_47 : decode cX7_proposalAt 47 = .ok (.iconst 0, 1) := by decide +kernel
theorem dX7_proposalAt_48 : decode cX7_proposalAt 48 = .ok (.istore 6, 2) := by decide +kernel
theorem dX7_proposalAt_50 : decode cX7_proposalAt 50 = .ok (.iload 6, 2) := by decide +kernel
theorem dX7_proposalAt_52 : decode cX7_proposalAt 52 = .ok (.aload_n 0, 1) := by decide +kernel
theorem dX7_proposalAt_53 : decode cX7_proposalAt 53 = .ok (.getfield 146, 3) := by decide +kernel
theorem dX7_proposalAt_56 : decode cX7_proposalAt 56 = .ok (.if_icmp .ge 46, 3) := by decide +kernel
theorem dX7_proposalAt_59 : decode cX7_proposalAt 59 = .ok (.aload_n 0, 1) := by decide +kernel
theorem dX7_proposalAt_60 : decode cX7_proposalAt 60 = .ok (.getfield 102, 3) := by decide +kernel
theorem dX7_proposalAt_63 : decode cX7_proposalAt 63 = .ok (.iload 6, 2) := by decide +kernel
theorem dX7_proposalAt_65 : decode cX7_proposalAt 65 = .ok (.iaload, 1) := by decide +kernel
theorem dX7_proposalAt_66 : decode cX7_proposalAt 66 = .ok (.iload_n 1, 1) := by decide +kernel
theorem dX7_proposalAt_67 : decode cX7_proposalAt 67 = .ok (.if_icmp .ne 29, 3) := by decide +kernel
theorem dX7_proposalAt_70 : decode cX7_proposalAt 70 = .ok (.aload_n 0, 1) := by decide +kernel
theorem dX7_proposalAt_71 : decode cX7_proposalAt 71 = .ok (.iload 6, 2) := by decide +kernel
theorem dX7_proposalAt_73 : decode cX7_proposalAt 73 = .ok (.invokevirtual 264, 3) := by decide +kernel
theorem dX7_proposalAt_76 : decode cX7_proposalAt 76 = .ok (.ifCond .eq 20, 3) := by decide +kernel
theorem dX7_proposalAt_79 : decode cX7_proposalAt 79 = .ok (.iload 4, 2) := by decide +kernel
theorem dX7_proposalAt_81 : decode cX7_proposalAt 81 = .ok (.ifCond .ne 8, 3) := by decide +kernel
theorem dX7_proposalAt_84 : decode cX7_proposalAt 84 = .ok (.iload 6, 2) := by decide +kernel
theorem dX7_proposalAt_86 : decode cX7_proposalAt 86 = .ok (.goto 5, 3) := by decide +kernel
theorem dX7_proposalAt_89 : decode cX7_proposalAt 89 = .ok (.iload 5, 2) := by decide +kernel
theorem dX7_proposalAt_91 : decode cX7_proposalAt 91 = .ok (.istore 5, 2) := by decide +kernel
theorem dX7_proposalAt_93 : decode cX7_proposalAt 93 = .ok (.iinc 4 (-1), 3) := by decide +kernel
theorem dX7_proposalAt_96 : decode cX7_proposalAt 96 = .ok (.iinc 6 1, 3) := by decide +kernel
theorem dX7_proposalAt_99 : decode cX7_proposalAt 99 = .ok (.goto (-49), 3) := by decide +kernel
theorem dX7_proposalAt_102 : decode cX7_proposalAt 102 = .ok (.iload 5, 2) := by decide +kernel
theorem dX7_proposalAt_104 : decode cX7_proposalAt 104 = .ok (.ireturn, 1) := by decide +kernel
theorem lk_X7_proposalAt : LK yX7_proposalAt cX7_proposalAt 7 (some .int) 2 := ⟨qW_at 1801 (by decide +kernel) rfl, qW_at 78 (by decide +kernel) rfl, by decide, by decide, by decide +kernel⟩
theorem im_X7_proposalAt : Cond.instanceMethod yX7_proposalAt ∈ qW := qW_at 1799 (by decide +kernel) rfl
theorem se_X7_proposalAt : Cond.selects RX7 yX7_proposalAt yX7_proposalAt ∈ qW := qW_at 1800 (by decide +kernel) rfl
def F_X7_proposalAt (this : Nat) (its_ : Int32) (place_ : Int32) : QX Int32 :=
  (xb (xb (xp (some this)) fun v1 => xb (xp its_) fun v2 => xo 8 v1 fun q => F_X7_isMeeting q v2) fun is_3 =>
  (xb (xb (xb (xb (xp (some this)) fun v15 => xb (xb (xb (xb (xp is_3) fun v4 => xp (decide (¬ v4 = 0))) fun v13 => if v13 then (xb (xb (xp place_) fun v9 => xb (xp (0 : Int32)) fun v10 => xb (xb (xb (xp (some this)) fun v5 => xb (xp its_) fun v6 => xo 8 v5 fun q => F_X7_opens q v6) fun v7 => xb (xp (1 : Int32)) fun v8 => (xp (v7 - v8))) fun v11 => F_X7_in v9 v10 v11) fun v12 => xp (decide (¬ v12 = 0))) else xp false) fun v14 => xp (b2i v14)) fun v16 => xb (xp (1 : Int32)) fun v17 => xb (xp (1 : Int32)) fun v18 => xo 8 v15 fun q => F_X7_goes q v16 v17 v18) fun v19 => xp (decide (¬ v19 = 0))) fun v20 => xp (!v20)) fun v43 => if v43 then (xp (0 : Int32)) else
  (xb (xp place_) fun left_21 =>
  (xb (xp (-1 : Int32)) fun found_22 =>
  (xb (xp (0 : Int32)) fun k_23 =>
  (xb (xl 2000 (fun (s24 : Int32 × Int32 × Int32) => (xb (xp s24.2.2) fun v25 => xb (xb (xp (some this)) fun v26 => xgi 8 29 v26) fun v27 => xp (decide (v25 < v27)))) (fun (s24 : Int32 × Int32 × Int32) =>
  (xb (xb (xb (xb (xb (xb (xp (some this)) fun v28 => xgr 8 34 v28) fun v29 => xb (xp s24.2.2) fun v30 => xai 0 v29 v30) fun v31 => xb (xp its_) fun v32 => xp (decide (v31 = v32))) fun v36 => if v36 then (xb (xb (xp (some this)) fun v33 => xb (xp s24.2.2) fun v34 => xo 8 v33 fun q => F_X7_isOpen q v34) fun v35 => xp (decide (¬ v35 = 0))) else xp false) fun v40 => if v40 then (xb (xb (xb (xp s24.2.1) fun v37 => xp (decide (v37 = 0))) fun v38 => if v38 then (xp s24.2.2) else (xp s24.1)) fun found_39 =>
  (xp (found_39, (s24.2.1 + (-1))))) else (xp (s24.1, s24.2.1))) fun s41 =>
  (xp (s41.1, s41.2, (s24.2.2 + 1))))) (found_22, left_21, k_23)) fun s42 =>
  (xp s42.1)))))))
set_option maxRecDepth 100000 in
set_option maxHeartbeats 4000000 in
theorem M_X7_proposalAt (this : Nat) (its_ : Int32) (place_ : Int32) : MM yX7_proposalAt cX7_proposalAt 7 (some .int) 3 68 0 0 encI [.ref this, .int its_, .int place_] (F_X7_proposalAt this its_ place_) := by
  refine MM_of (env0 := [(0, va_rf (some this)), (1, .int its_), (2, .int place_)]) (by decide) (by exact Nat.le_of_ble_eq_true rfl) (by rfl) (fun k mm res X C hR hN hr hname h => ?_)
  have X : CX k cX7_proposalAt RX7 := X
  have hT : TH k (fun e m' => res = (.error e, m')) := TH_of C
  have htr := C.2.2.2.1
  unfold F_X7_proposalAt at h
  exact SB_go (T := fun e m' => res = (.error e, m')) (RET := fun v m' => res = (.ok v, m')) (SB_let (XE_2 (pB := pI) wR (L_aload_n (r := (some this)) 0 X dX7_proposalAt_0 rfl rfl) (L_iload_n (x := its_) 1 X dX7_proposalAt_1 rfl rfl) (fun v0 v1 st mm a b hd hc hs h => g_callVo (st := st) (cI := 8) X hT htr rfl (fun q => M_X7_isMeeting q v1) lk_X7_isMeeting im_X7_isMeeting se_X7_isMeeting ml_X7_211 rfl (by rw [hR]; exact ⟨Nat.le_of_ble_eq_true rfl, Nat.le_of_ble_eq_true rfl⟩) (Nat.le_trans hd (by decide)) ⟨hc, hs⟩ dX7_proposalAt_2 h)) (S_istore_n (ev := fun is_3 => [(3, .int is_3), (0, va_rf (some this)), (1, .int its_), (2, .int place_)]) X dX7_proposalAt_5 rfl (by rw [hN]; decide) (fun _ => rfl)) fun is_3 =>
  (SB_if (CE_not (CE_1 (XE_4 (pB := pI) wR wI wI (L_aload_n (r := (some this)) 1 X dX7_proposalAt_6 rfl rfl) (XE_b2i (CE_and (CE_1 (L_iload_n (x := is_3) 0 X dX7_proposalAt_7 rfl rfl) (Z_ne_F X dX7_proposalAt_8 (by decide))) (CE_1 (XE_3 (pB := pI) wI wI (L_iload_n (x := place_) 3 X dX7_proposalAt_11 rfl rfl) (L_iconst (v := 0) X dX7_proposalAt_12 (by decide)) (XE_2 wI (XE_2 (pB := pI) wR (L_aload_n (r := (some this)) 1 X dX7_proposalAt_13 rfl rfl) (L_iload_n (x := its_) 2 X dX7_proposalAt_14 rfl rfl) (fun v0 v1 st mm a b hd hc hs h => g_callVo (st := st) (cI := 8) X hT htr rfl (fun q => M_X7_opens q v1) lk_X7_opens im_X7_opens se_X7_opens ml_X7_270 rfl (by rw [hR]; exact ⟨Nat.le_of_ble_eq_true rfl, Nat.le_of_ble_eq_true rfl⟩) (Nat.le_trans hd (by decide)) ⟨hc, hs⟩ dX7_proposalAt_15 h)) (L_iconst (v := 1) X dX7_proposalAt_18 (by decide)) (O_isub X dX7_proposalAt_19)) (fun v0 v1 v2 st mm a b hd hc hs h => g_callS (st := st) X hT htr (M_X7_in v0 v1 v2) lk_X7_in st_X7_in ml_X7_139 rfl (by rw [hR]; exact ⟨Nat.le_of_ble_eq_true rfl, Nat.le_of_ble_eq_true rfl⟩) (Nat.le_trans hd (by decide)) ⟨hc, hs⟩ dX7_proposalAt_20 h)) (Z_ne_F X dX7_proposalAt_23 (by decide)))) (S_b1 X dX7_proposalAt_26 dX7_proposalAt_27 (by decide)) (S_b0 X dX7_proposalAt_30)) (L_iconst (v := 1) X dX7_proposalAt_31 (by decide)) (L_iconst (v := 1) X dX7_proposalAt_32 (by decide)) (fun v0 v1 v2 v3 st mm a b hd hc hs h => g_callVo (st := st) (cI := 8) X hT htr rfl (fun q => M_X7_goes q v1 v2 v3) lk_X7_goes im_X7_goes se_X7_goes ml_X7_153 rfl (by rw [hR]; exact ⟨Nat.le_of_ble_eq_true rfl, Nat.le_of_ble_eq_true rfl⟩) (Nat.le_trans hd (by decide)) ⟨hc, hs⟩ dX7_proposalAt_33 h)) (Z_ne_T X dX7_proposalAt_36 (by decide))))
  (SB_retI X C hr dX7_proposalAt_40 (L_iconst (v := 0) X dX7_proposalAt_39 (by decide)))
  (SB_let (L_iload_n (x := place_) 3 X dX7_proposalAt_41 rfl rfl) (S_istore (ev := fun left_21 => [(4, .int left_21), (3, .int is_3), (0, va_rf (some this)), (1, .int its_), (2, .int place_)]) X dX7_proposalAt_42 (by rw [hN]; decide) (fun _ => rfl)) fun left_21 =>
  (SB_let (L_iconst (v := (-1)) X dX7_proposalAt_44 (by decide)) (S_istore (ev := fun found_22 => [(5, .int found_22), (4, .int left_21), (3, .int is_3), (0, va_rf (some this)), (1, .int its_), (2, .int place_)]) X dX7_proposalAt_45 (by rw [hN]; decide) (fun _ => rfl)) fun found_22 =>
  (SB_let (L_iconst (v := 0) X dX7_proposalAt_47 (by decide)) (S_istore (ev := fun k_23 => [(6, .int k_23), (5, .int found_22), (4, .int left_21), (3, .int is_3), (0, va_rf (some this)), (1, .int its_), (2, .int place_)]) X dX7_proposalAt_48 (by rw [hN]; decide) (fun _ => rfl)) fun k_23 =>
  (SB_seq (ST_loop (σ := Int32 × Int32 × Int32) (upd := (fun (s : Int32 × Int32 × Int32) => [(6, .int s.2.2), (5, .int s.1), (4, .int s.2.1), (3, .int is_3), (0, va_rf (some this)), (1, .int its_), (2, .int place_)])) (s0 := (found_22, left_21, k_23)) (n := 2000) (fun mm a b h => GG_sub [0, 1, 2, 3, 4, 5, 6] rfl h)
  (fun s24 => (CE_2 wI (L_iload (x := s24.2.2) 0 X dX7_proposalAt_50 rfl) (XE_1 (L_aload_n (r := (some this)) 4 X dX7_proposalAt_52 rfl rfl) (O_gi (c := 8) (j := 29) X rfl inW7 (by decide) fl_X7_146 rfl dX7_proposalAt_53)) (C_lt_F X dX7_proposalAt_56 (by decide))))
  (fun s24 => (ST_post (ST_seq (ST_if (CE_and (CE_2 wI (XE_2 wR (XE_1 (L_aload_n (r := (some this)) 4 X dX7_proposalAt_59 rfl rfl) (O_gr (c := 8) (j := 34) X rfl inW7 (by decide) fl_X7_102 rfl dX7_proposalAt_60)) (L_iload (x := s24.2.2) 0 X dX7_proposalAt_63 rfl) (O_ai X dX7_proposalAt_65)) (L_iload_n (x := its_) 5 X dX7_proposalAt_66 rfl rfl) (C_eq_F X dX7_proposalAt_67 (by decide))) (CE_1 (XE_2 (pB := pI) wR (L_aload_n (r := (some this)) 4 X dX7_proposalAt_70 rfl rfl) (L_iload (x := s24.2.2) 0 X dX7_proposalAt_71 rfl) (fun v0 v1 st mm a b hd hc hs h => g_callVo (st := st) (cI := 8) X hT htr rfl (fun q => M_X7_isOpen q v1) lk_X7_isOpen im_X7_isOpen se_X7_isOpen ml_X7_264 rfl (by rw [hR]; exact ⟨Nat.le_of_ble_eq_true rfl, Nat.le_of_ble_eq_true rfl⟩) (Nat.le_trans hd (by decide)) ⟨hc, hs⟩ dX7_proposalAt_73 h)) (Z_ne_F X dX7_proposalAt_76 (by decide))))
  (ST_let (XE_tern (CE_1 (L_iload (x := s24.2.1) 2 X dX7_proposalAt_79 rfl) (Z_eq_F X dX7_proposalAt_81 (by decide))) (L_iload (x := s24.2.2) 0 X dX7_proposalAt_84 rfl) (S_goto X dX7_proposalAt_86 (by decide)) (L_iload (x := s24.1) 1 X dX7_proposalAt_89 rfl)) (S_istore (ev := fun found_39 => [(5, .int found_39), (6, .int s24.2.2), (4, .int s24.2.1), (3, .int is_3), (0, va_rf (some this)), (1, .int its_), (2, .int place_)]) X dX7_proposalAt_91 (by rw [hN]; decide) (fun _ => rfl)) fun found_39 =>
  (ST_pre (env' := [(4, .int (s24.2.1 + (-1))), (5, .int found_39), (6, .int s24.2.2), (3, .int is_3), (0, va_rf (some this)), (1, .int its_), (2, .int place_)]) (S_iinc 2 X dX7_proposalAt_93 rfl rfl (by rw [hN]; decide) rfl)
  (ST_done (upd := (fun (s : Int32 × Int32) => [(6, .int s24.2.2), (5, .int s.1), (4, .int s.2), (3, .int is_3), (0, va_rf (some this)), (1, .int its_), (2, .int place_)])) (s := (found_39, (s24.2.1 + (-1)))) [2, 1, 0, 3, 4, 5, 6] rfl)))
  (ST_done (upd := (fun (s : Int32 × Int32) => [(6, .int s24.2.2), (5, .int s.1), (4, .int s.2), (3, .int is_3), (0, va_rf (some this)), (1, .int its_), (2, .int place_)])) (s := (s24.1, s24.2.1)) [0, 1, 2, 3, 4, 5, 6] rfl)) fun s41 =>
  (ST_pre (env' := [(6, .int (s24.2.2 + 1)), (5, .int s41.1), (4, .int s41.2), (3, .int is_3), (0, va_rf (some this)), (1, .int its_), (2, .int place_)]) (S_iinc 0 X dX7_proposalAt_96 rfl rfl (by rw [hN]; decide) rfl)
  (ST_done (upd := (fun (s : Int32 × Int32 × Int32) => [(6, .int s.2.2), (5, .int s.1), (4, .int s.2.1), (3, .int is_3), (0, va_rf (some this)), (1, .int its_), (2, .int place_)])) (s := (s41.1, s41.2, (s24.2.2 + 1))) [0, 1, 2, 3, 4, 5, 6] rfl))) fun _ mm a b h => S_goto X dX7_proposalAt_99 (by decide) [] mm a b h))) fun s42 =>
  (SB_retI X C hr dX7_proposalAt_104 (L_iload (x := s42.1) 1 X dX7_proposalAt_102 rfl)))))))) h (by rw [hR]; decide) (by rw [hR]; decide)
theorem dX7_rankFor_0 : decode cX7_rankFor 0 = .ok (.aload_n 0, 1) := by decide +kernel
theorem dX7_rankFor_1 : decode cX7_rankFor 1 = .ok (.iload_n 1, 1) := by decide +kernel
theorem dX7_rankFor_2 : decode cX7_rankFor 2 = .ok (.iload_n 2, 1) := by decide +kernel
theorem dX7_rankFor_3 : decode cX7_rankFor 3 = .ok (.iload_n 3, 1) := by decide +kernel
theorem dX7_rankFor_4 : decode cX7_rankFor 4 = .ok (.invokevirtual 343, 3) := by decide +kernel
theorem dX7_rankFor_7 : decode cX7_rankFor 7 = .ok (.istore 4, 2) := by decide +kernel
theorem dX7_rankFor_9 : decode cX7_rankFor 9 = .ok (.iload 4, 2) := by decide +kernel
theorem dX7_rankFor_11 : decode cX7_rankFor 11 = .ok (.iconst 1, 1) := by decide +kernel
theorem dX7_rankFor_12 : decode cX7_rankFor 12 = .ok (.if_icmp .ne 7, 3) := by decide +kernel
theorem dX7_rankFor_15 : decode cX7_rankFor 15 = .ok (.iconst 2, 1) := by decide +kernel
theorem dX7_rankFor_16 : decode cX7_rankFor 16 = .ok (.goto 14, 3) := by decide +kernel
theorem dX7_rankFor_19 : decode cX7_rankFor 19 = .ok (.iload 4, 2) := by decide +kernel
theorem dX7_rankFor_21 : decode cX7_rankFor 21 = .ok (.iconst 2, 1) := by decide +kernel
theorem dX7_rankFor_22 : decode cX7_rankFor 22 = .ok (.if_icmp .ne 7, 3) := by decide +kernel
theorem dX7_rankFor_25 : decode cX7_rankFor 25 = .ok (.iconst 1, 1) := by decide +kernel
theorem dX7_rankFor_26 : decode cX7_rankFor 26 = .ok (.goto 4, 3) := by decide +kernel
theorem dX7_rankFor_29 : decode cX7_rankFor 29 = .ok (.iconst 0, 1) := by decide +kernel
theorem dX7_rankFor_30 : decode cX7_rankFor 30 = .ok (.ireturn, 1) := by decide +kernel
theorem lk_X7_rankFor : LK yX7_rankFor cX7_rankFor 5 (some .int) 3 := ⟨qW_at 1813 (by decide +kernel) rfl, qW_at 78 (by decide +kernel) rfl, by decide, by decide, by decide +kernel⟩
theorem im_X7_rankFor : Cond.instanceMethod yX7_rankFor ∈ qW := qW_at 1812 (by decide +kernel) rfl
theorem se_X7_rankFor : Cond.selects RX7 yX7_rankFor yX7_rankFor ∈ qW := qW_at 70 (by decide +kernel) rfl
def F_X7_rankFor (this : Nat) (person_ : Int32) (its_ : Int32) (when_ : Int32) : QX Int32 :=
  (xb (xb (xp (some this)) fun v1 => xb (xp person_) fun v2 => xb (xp its_) fun v3 => xb (xp when_) fun v4 => xo 8 v1 fun q => F_X7_ownOf q v2 v3 v4) fun own_5 =>
  (xb (xb (xp own_5) fun v6 => xb (xp (1 : Int32)) fun v7 => xp (decide (v6 = v7))) fun v11 => if v11 then (xp (2 : Int32)) else (xb (xb (xp own_5) fun v8 => xb (xp (2 : Int32)) fun v9 => xp (decide (v8 = v9))) fun v10 => if v10 then (xp (1 : Int32)) else (xp (0 : Int32)))))
set_option maxRecDepth 100000 in
set_option maxHeartbeats 4000000 in
theorem M_X7_rankFor (this : Nat) (person_ : Int32) (its_ : Int32) (when_ : Int32) : MM yX7_rankFor cX7_rankFor 5 (some .int) 3 73 0 0 encI [.ref this, .int person_, .int its_, .int when_] (F_X7_rankFor this person_ its_ when_) := by
  refine MM_of (env0 := [(0, va_rf (some this)), (1, .int person_), (2, .int its_), (3, .int when_)]) (by decide) (by exact Nat.le_of_ble_eq_true rfl) (by rfl) (fun k mm res X C hR hN hr hname h => ?_)
  have X : CX k cX7_rankFor RX7 := X
  have hT : TH k (fun e m' => res = (.error e, m')) := TH_of C
  have htr := C.2.2.2.1
  unfold F_X7_rankFor at h
  exact SB_go (T := fun e m' => res = (.error e, m')) (RET := fun v m' => res = (.ok v, m')) (SB_let (XE_4 (pB := pI) wR wI wI (L_aload_n (r := (some this)) 0 X dX7_rankFor_0 rfl rfl) (L_iload_n (x := person_) 1 X dX7_rankFor_1 rfl rfl) (L_iload_n (x := its_) 2 X dX7_rankFor_2 rfl rfl) (L_iload_n (x := when_) 3 X dX7_rankFor_3 rfl rfl) (fun v0 v1 v2 v3 st mm a b hd hc hs h => g_callVo (st := st) (cI := 8) X hT htr rfl (fun q => M_X7_ownOf q v1 v2 v3) lk_X7_ownOf im_X7_ownOf se_X7_ownOf ml_X7_343 rfl (by rw [hR]; exact ⟨Nat.le_of_ble_eq_true rfl, Nat.le_of_ble_eq_true rfl⟩) (Nat.le_trans hd (by decide)) ⟨hc, hs⟩ dX7_rankFor_4 h)) (S_istore (ev := fun own_5 => [(4, .int own_5), (0, va_rf (some this)), (1, .int person_), (2, .int its_), (3, .int when_)]) X dX7_rankFor_7 (by rw [hN]; decide) (fun _ => rfl)) fun own_5 =>
  (SB_retI X C hr dX7_rankFor_30 (XE_tern (CE_2 wI (L_iload (x := own_5) 0 X dX7_rankFor_9 rfl) (L_iconst (v := 1) X dX7_rankFor_11 (by decide)) (C_eq_F X dX7_rankFor_12 (by decide))) (L_iconst (v := 2) X dX7_rankFor_15 (by decide)) (S_goto X dX7_rankFor_16 (by decide)) (XE_tern (CE_2 wI (L_iload (x := own_5) 0 X dX7_rankFor_19 rfl) (L_iconst (v := 2) X dX7_rankFor_21 (by decide)) (C_eq_F X dX7_rankFor_22 (by decide))) (L_iconst (v := 1) X dX7_rankFor_25 (by decide)) (S_goto X dX7_rankFor_26 (by decide)) (L_iconst (v := 0) X dX7_rankFor_29 (by decide)))))) h (by rw [hR]; decide) (by rw [hR]; decide)
theorem dX7_rankOf_0 : decode cX7_rankOf 0 = .ok (.iconst 0, 1) := by decide +kernel
theorem dX7_rankOf_1 : decode cX7_rankOf 1 = .ok (.istore_n 3, 1) := by decide +kernel
theorem dX7_rankOf_2 : decode cX7_rankOf 2 = .ok (.iconst 0, 1) := by decide +kernel
theorem dX7_rankOf_3 : decode cX7_rankOf 3 = .ok (.istore 4, 2) := by decide +kernel
theorem dX7_rankOf_5 : decode cX7_rankOf 5 = .ok (.iload 4, 2) := by decide +kernel
theorem dX7_rankOf_7 : decode cX7_rankOf 7 = .ok (.aload_n 0, 1) := by decide +kernel
theorem dX7_rankOf_8 : decode cX7_rankOf 8 = .ok (.getfield 143, 3) := by decide +kernel
theorem dX7_rankOf_11 : decode cX7_rankOf 11 = .ok (.if_icmp .ge 112, 3) := by decide +kernel
theorem dX7_rankOf_14 : decode cX7_rankOf 14 = .ok (.aload_n 0, 1) := by decide +kernel
theorem dX7_rankOf_15 : decode cX7_rankOf 15 = .ok (.iload_n 1, 1) := by decide +kernel
theorem dX7_rankOf_16 : decode cX7_rankOf 16 = .ok (.iload 4, 2) := by decide +kernel
theorem dX7_rankOf_18 : decode cX7_rankOf 18 = .ok (.invokevirtual 326, 3) := by decide +kernel
theorem dX7_rankOf_21 : decode cX7_rankOf 21 = .ok (.lstore 5, 2) := by decide +kernel
theorem dX7_rankOf_23 : decode cX7_rankOf 23 = .ok (.iconst 0, 1) := by decide +kernel
theorem dX7_rankOf_24 : decode cX7_rankOf 24 = .ok (.istore 7, 2) := by decide +kernel
theorem dX7_rankOf_26 : decode cX7_rankOf 26 = .ok (.iload 7, 2) := by decide +kernel
theorem dX7_rankOf_28 : decode cX7_rankOf 28 = .ok (.bipush 60, 2) := by decide +kernel
theorem dX7_rankOf_30 : decode cX7_rankOf 30 = .ok (.if_icmp .ge 87, 3) := by decide +kernel
theorem dX7_rankOf_33 : decode cX7_rankOf 33 = .ok (.lload 5, 2) := by decide +kernel
theorem dX7_rankOf_35 : decode cX7_rankOf 35 = .ok (.iload 7, 2) := by decide +kernel
theorem dX7_rankOf_37 : decode cX7_rankOf 37 = .ok (.invokestatic 180, 3) := by decide +kernel
theorem dX7_rankOf_40 : decode cX7_rankOf 40 = .ok (.ifCond .eq 71, 3) := by decide +kernel
theorem dX7_rankOf_43 : decode cX7_rankOf 43 = .ok (.aload_n 0, 1) := by decide +kernel
theorem dX7_rankOf_44 : decode cX7_rankOf 44 = .ok (.iload_n 1, 1) := by decide +kernel
theorem dX7_rankOf_45 : decode cX7_rankOf 45 = .ok (.iload 4, 2) := by decide +kernel
theorem dX7_rankOf_47 : decode cX7_rankOf 47 = .ok (.invokevirtual 323, 3) := by decide +kernel
theorem dX7_rankOf_50 : decode cX7_rankOf 50 = .ok (.istore 8, 2) := by decide +kernel
theorem dX7_rankOf_52 : decode cX7_rankOf 52 = .ok (.aload_n 0, 1) := by decide +kernel
theorem dX7_rankOf_53 : decode cX7_rankOf 53 = .ok (.iload 8, 2) := by decide +kernel
theorem dX7_rankOf_55 : decode cX7_rankOf 55 = .ok (.iload 7, 2) := by decide +kernel
theorem dX7_rankOf_57 : decode cX7_rankOf 57 = .ok (.invokevirtual 336, 3) := by decide +kernel
theorem dX7_rankOf_60 : decode cX7_rankOf 60 = .ok (.istore 9, 2) := by decide +kernel
theorem dX7_rankOf_62 : decode cX7_rankOf 62 = .ok (.iload_n 2, 1) := by decide +kernel
theorem dX7_rankOf_63 : decode cX7_rankOf 63 = .ok (.iload 9, 2) := by decide +kernel
theorem dX7_rankOf_65 : decode cX7_rankOf 65 = .ok (.iload 9, 2) := by decide +kernel
theorem dX7_rankOf_67 : decode cX7_rankOf 67 = .ok (.aload_n 0, 1) := by decide +kernel
theorem dX7_rankOf_68 : decode cX7_rankOf 68 = .ok (.getfield 44, 3) := by decide +kernel
theorem dX7_rankOf_71 : decode cX7_rankOf 71 = .ok (.iload 8, 2) := by decide +kernel
theorem dX7_rankOf_73 : decode cX7_rankOf 73 = .ok (.iaload, 1) := by decide +kernel
theorem dX7_rankOf_74 : decode cX7_rankOf 74 = .ok (.iadd, 1) := by decide +kernel
theorem dX7_rankOf_75 : decode cX7_rankOf 75 = .ok (.iconst 1, 1) := by decide +kernel
theorem dX7_rankOf_76 : decode cX7_rankOf 76 = .ok (.isub, 1) := by decide +kernel
theorem dX7_rankOf_77 : decode cX7_rankOf 77 = .ok (.invokestatic 139, 3) := by decide +kernel
theorem dX7_rankOf_80 : decode cX7_rankOf 80 = .ok (.ifCond .eq 15, 3) := by decide +kernel
theorem dX7_rankOf_83 : decode cX7_rankOf 83 = .ok (.aload_n 0, 1) := by decide +kernel
theorem dX7_rankOf_84 : decode cX7_rankOf 84 = .ok (.iload_n 1, 1) := by decide +kernel
theorem dX7_rankOf_85 : decode cX7_rankOf 85 = .ok (.iload 4, 2) := by decide +kernel
theorem dX7_rankOf_87 : decode cX7_rankOf 87 = .ok (.iload 7, 2) := by decide +kernel
theorem dX7_rankOf_89 : decode cX7_rankOf 89 = .ok (.invokevirtual 349, 3) := by decide +kernel
theorem dX7_rankOf_92 : decode cX7_rankOf 92 = .ok (.goto 4, 3) := by decide +kernel
theorem dX7_rankOf_95 : decode cX7_rankOf 95 = .ok (.iconst 0, 1) := by decide +kernel
theorem dX7_rankOf_96 : decode cX7_rankOf 96 = .ok (.istore 10, 2) := by decide +kernel
theorem dX7_rankOf_98 : decode cX7_rankOf 98 = .ok (.iload 10, 2) := by decide +kernel
theorem dX7_rankOf_100 : decode cX7_rankOf 100 = .ok (.iload_n 3, 1) := by decide +kernel
theorem dX7_rankOf_101 : decode cX7_rankOf 101 = .ok (.if_icmp .le 8, 3) := by decide +kernel
theorem dX7_rankOf_104 : decode cX7_rankOf 104 = .ok (.iload 10, 2) := by decide +kernel
theorem dX7_rankOf_106 : decode cX7_rankOf 106 = .ok (.goto 4, 3) := by decide +kernel
theorem dX7_rankOf_109 : decode cX7_rankOf 109 = .ok (.iload_n 3, 1) := by decide +kernel
theorem dX7_rankOf_110 : decode cX7_rankOf 110 = .ok (.istore_n 3, 1) := by decide +kernel
theorem dX7_rankOf_111 : decode cX7_rankOf 111 = .ok (.iinc 7 1, 3) := by decide +kernel
theorem dX7_rankOf_114 : decode cX7_rankOf 114 = .ok (.goto (-88), 3) := by decide +kernel
theorem dX7_rankOf_117 : decode cX7_rankOf 117 = .ok (.iinc 4 1, 3) := by decide +kernel
theorem dX7_rankOf_120 : decode cX7_rankOf 120 = .ok (.goto (-115), 3) := by decide +kernel
theorem dX7_rankOf_123 : decode cX7_rankOf 123 = .ok (.iload_n 3, 1) := by decide +kernel
theorem dX7_rankOf_124 : decode cX7_rankOf 124 = .ok (.ireturn, 1) := by decide +kernel
theorem lk_X7_rankOf : LK yX7_rankOf cX7_rankOf 11 (some .int) 2 := ⟨qW_at 1809 (by decide +kernel) rfl, qW_at 78 (by decide +kernel) rfl, by decide, by decide, by decide +kernel⟩
theorem im_X7_rankOf : Cond.instanceMethod yX7_rankOf ∈ qW := qW_at 1808 (by decide +kernel) rfl
theorem se_X7_rankOf : Cond.selects RX7 yX7_rankOf yX7_rankOf ∈ qW := qW_at 69 (by decide +kernel) rfl
def F_X7_rankOf (this : Nat) (person_ : Int32) (when_ : Int32) : QX Int32 :=
  (xb (xp (0 : Int32)) fun most_1 =>
  (xb (xp (0 : Int32)) fun its_2 =>
  (xb (xl 2000 (fun (s3 : Int32 × Int32) => (xb (xp s3.2) fun v4 => xb (xb (xp (some this)) fun v5 => xgi 8 3 v5) fun v6 => xp (decide (v4 < v6)))) (fun (s3 : Int32 × Int32) =>
  (xb (xb (xp (some this)) fun v7 => xb (xp person_) fun v8 => xb (xp s3.2) fun v9 => xo 8 v7 fun q => F_X7_datesOf q v8 v9) fun set_10 =>
  (xb (xp (0 : Int32)) fun k_11 =>
  (xb (xl 2000 (fun (s12 : Int32 × Int32) => (xb (xp s12.2) fun v13 => xb (xp (60 : Int32)) fun v14 => xp (decide (v13 < v14)))) (fun (s12 : Int32 × Int32) =>
  (xb (xb (xb (xb (xp set_10) fun v15 => xb (xp s12.2) fun v16 => F_X7_has v15 v16) fun v17 => xp (decide (¬ v17 = 0))) fun v47 => if v47 then (xb (xb (xp (some this)) fun v18 => xb (xp person_) fun v19 => xb (xp s3.2) fun v20 => xo 8 v18 fun q => F_X7_versionOf q v19 v20) fun by_21 =>
  (xb (xb (xp (some this)) fun v22 => xb (xp by_21) fun v23 => xb (xp s12.2) fun v24 => xo 8 v22 fun q => F_X7_beginOf q v23 v24) fun from_25 =>
  (xb (xb (xb (xb (xp when_) fun v33 => xb (xp from_25) fun v34 => xb (xb (xb (xp from_25) fun v29 => xb (xb (xb (xp (some this)) fun v26 => xgr 8 13 v26) fun v27 => xb (xp by_21) fun v28 => xai 0 v27 v28) fun v30 => (xp (v29 + v30))) fun v31 => xb (xp (1 : Int32)) fun v32 => (xp (v31 - v32))) fun v35 => F_X7_in v33 v34 v35) fun v36 => xp (decide (¬ v36 = 0))) fun v41 => if v41 then (xb (xp (some this)) fun v37 => xb (xp person_) fun v38 => xb (xp s3.2) fun v39 => xb (xp s12.2) fun v40 => xo 8 v37 fun q => F_X7_rankFor q v38 v39 v40) else (xp (0 : Int32))) fun rank_42 =>
  (xb (xb (xb (xp rank_42) fun v43 => xb (xp s12.1) fun v44 => xp (decide (v44 < v43))) fun v45 => if v45 then (xp rank_42) else (xp s12.1)) fun most_46 =>
  (xp most_46))))) else (xp s12.1)) fun s48 =>
  (xp (s48, (s12.2 + 1))))) (s3.1, k_11)) fun s49 =>
  (xp (s49.1, (s3.2 + 1))))))) (most_1, its_2)) fun s50 =>
  (xp s50.1))))
set_option maxRecDepth 100000 in
set_option maxHeartbeats 4000000 in
theorem M_X7_rankOf (this : Nat) (person_ : Int32) (when_ : Int32) : MM yX7_rankOf cX7_rankOf 11 (some .int) 4 97 0 0 encI [.ref this, .int person_, .int when_] (F_X7_rankOf this person_ when_) := by
  refine MM_of (env0 := [(0, va_rf (some this)), (1, .int person_), (2, .int when_)]) (by decide) (by exact Nat.le_of_ble_eq_true rfl) (by rfl) (fun k mm res X C hR hN hr hname h => ?_)
  have X : CX k cX7_rankOf RX7 := X
  have hT : TH k (fun e m' => res = (.error e, m')) := TH_of C
  have htr := C.2.2.2.1
  unfold F_X7_rankOf at h
  exact SB_go (T := fun e m' => res = (.error e, m')) (RET := fun v m' => res = (.ok v, m')) (SB_let (L_iconst (v := 0) X dX7_rankOf_0 (by decide)) (S_istore_n (ev := fun most_1 => [(3, .int most_1), (0, va_rf (some this)), (1, .int person_), (2, .int when_)]) X dX7_rankOf_1 rfl (by rw [hN]; decide) (fun _ => rfl)) fun most_1 =>
  (SB_let (L_iconst (v := 0) X dX7_rankOf_2 (by decide)) (S_istore (ev := fun its_2 => [(4, .int its_2), (3, .int most_1), (0, va_rf (some this)), (1, .int person_), (2, .int when_)]) X dX7_rankOf_3 (by rw [hN]; decide) (fun _ => rfl)) fun its_2 =>
  (SB_seq (ST_loop (σ := Int32 × Int32) (upd := (fun (s : Int32 × Int32) => [(4, .int s.2), (3, .int s.1), (0, va_rf (some this)), (1, .int person_), (2, .int when_)])) (s0 := (most_1, its_2)) (n := 2000) (fun mm a b h => GG_sub [0, 1, 2, 3, 4] rfl h)
  (fun s3 => (CE_2 wI (L_iload (x := s3.2) 0 X dX7_rankOf_5 rfl) (XE_1 (L_aload_n (r := (some this)) 2 X dX7_rankOf_7 rfl rfl) (O_gi (c := 8) (j := 3) X rfl inW7 (by decide) fl_X7_143 rfl dX7_rankOf_8)) (C_lt_F X dX7_rankOf_11 (by decide))))
  (fun s3 => (ST_post (ST_let (XE_3 (pB := pL) wR wI (L_aload_n (r := (some this)) 2 X dX7_rankOf_14 rfl rfl) (L_iload_n (x := person_) 3 X dX7_rankOf_15 rfl rfl) (L_iload (x := s3.2) 0 X dX7_rankOf_16 rfl) (fun v0 v1 v2 st mm a b hd hc hs h => g_callVo (st := st) (cI := 8) X hT htr rfl (fun q => M_X7_datesOf q v1 v2) lk_X7_datesOf im_X7_datesOf se_X7_datesOf ml_X7_326 rfl (by rw [hR]; exact ⟨Nat.le_of_ble_eq_true rfl, Nat.le_of_ble_eq_true rfl⟩) (Nat.le_trans hd (by decide)) ⟨hc, hs⟩ dX7_rankOf_18 h)) (S_lstore (ev := fun set_10 => [(5, .long set_10), (4, .int s3.2), (3, .int s3.1), (0, va_rf (some this)), (1, .int person_), (2, .int when_)]) X dX7_rankOf_21 (by rw [hN]; decide) (fun _ => rfl)) fun set_10 =>
  (ST_let (L_iconst (v := 0) X dX7_rankOf_23 (by decide)) (S_istore (ev := fun k_11 => [(7, .int k_11), (5, .long set_10), (4, .int s3.2), (3, .int s3.1), (0, va_rf (some this)), (1, .int person_), (2, .int when_)]) X dX7_rankOf_24 (by rw [hN]; decide) (fun _ => rfl)) fun k_11 =>
  (ST_seq (ST_loop (σ := Int32 × Int32) (upd := (fun (s : Int32 × Int32) => [(7, .int s.2), (5, .long set_10), (4, .int s3.2), (3, .int s.1), (0, va_rf (some this)), (1, .int person_), (2, .int when_)])) (s0 := (s3.1, k_11)) (n := 2000) (fun mm a b h => GG_sub [0, 1, 2, 3, 4, 5, 6] rfl h)
  (fun s12 => (CE_2 wI (L_iload (x := s12.2) 0 X dX7_rankOf_26 rfl) (L_bipush (v := (60)) X dX7_rankOf_28 (by decide)) (C_lt_F X dX7_rankOf_30 (by decide))))
  (fun s12 => (ST_post (ST_seq (ST_if (CE_1 (XE_2 (pB := pI) wL (L_lload (x := set_10) 1 X dX7_rankOf_33 rfl) (L_iload (x := s12.2) 0 X dX7_rankOf_35 rfl) (fun v0 v1 st mm a b hd hc hs h => g_callS (st := st) X hT htr (M_X7_has v0 v1) lk_X7_has st_X7_has ml_X7_180 rfl (by rw [hR]; exact ⟨Nat.le_of_ble_eq_true rfl, Nat.le_of_ble_eq_true rfl⟩) (Nat.le_trans hd (by decide)) ⟨hc, hs⟩ dX7_rankOf_37 h)) (Z_ne_F X dX7_rankOf_40 (by decide)))
  (ST_let (XE_3 (pB := pI) wR wI (L_aload_n (r := (some this)) 4 X dX7_rankOf_43 rfl rfl) (L_iload_n (x := person_) 5 X dX7_rankOf_44 rfl rfl) (L_iload (x := s3.2) 2 X dX7_rankOf_45 rfl) (fun v0 v1 v2 st mm a b hd hc hs h => g_callVo (st := st) (cI := 8) X hT htr rfl (fun q => M_X7_versionOf q v1 v2) lk_X7_versionOf im_X7_versionOf se_X7_versionOf ml_X7_323 rfl (by rw [hR]; exact ⟨Nat.le_of_ble_eq_true rfl, Nat.le_of_ble_eq_true rfl⟩) (Nat.le_trans hd (by decide)) ⟨hc, hs⟩ dX7_rankOf_47 h)) (S_istore (ev := fun by_21 => [(8, .int by_21), (7, .int s12.2), (5, .long set_10), (4, .int s3.2), (3, .int s12.1), (0, va_rf (some this)), (1, .int person_), (2, .int when_)]) X dX7_rankOf_50 (by rw [hN]; decide) (fun _ => rfl)) fun by_21 =>
  (ST_let (XE_3 (pB := pI) wR wI (L_aload_n (r := (some this)) 5 X dX7_rankOf_52 rfl rfl) (L_iload (x := by_21) 0 X dX7_rankOf_53 rfl) (L_iload (x := s12.2) 1 X dX7_rankOf_55 rfl) (fun v0 v1 v2 st mm a b hd hc hs h => g_callVo (st := st) (cI := 8) X hT htr rfl (fun q => M_X7_beginOf q v1 v2) lk_X7_beginOf im_X7_beginOf se_X7_beginOf ml_X7_336 rfl (by rw [hR]; exact ⟨Nat.le_of_ble_eq_true rfl, Nat.le_of_ble_eq_true rfl⟩) (Nat.le_trans hd (by decide)) ⟨hc, hs⟩ dX7_rankOf_57 h)) (S_istore (ev := fun from_25 => [(9, .int from_25), (8, .int by_21), (7, .int s12.2), (5, .long set_10), (4, .int s3.2), (3, .int s12.1), (0, va_rf (some this)), (1, .int person_), (2, .int when_)]) X dX7_rankOf_60 (by rw [hN]; decide) (fun _ => rfl)) fun from_25 =>
  (ST_let (XE_tern (CE_1 (XE_3 (pB := pI) wI wI (L_iload_n (x := when_) 8 X dX7_rankOf_62 rfl rfl) (L_iload (x := from_25) 0 X dX7_rankOf_63 rfl) (XE_2 wI (XE_2 wI (L_iload (x := from_25) 0 X dX7_rankOf_65 rfl) (XE_2 wR (XE_1 (L_aload_n (r := (some this)) 6 X dX7_rankOf_67 rfl rfl) (O_gr (c := 8) (j := 13) X rfl inW7 (by decide) fl_X7_44 rfl dX7_rankOf_68)) (L_iload (x := by_21) 1 X dX7_rankOf_71 rfl) (O_ai X dX7_rankOf_73)) (O_iadd X dX7_rankOf_74)) (L_iconst (v := 1) X dX7_rankOf_75 (by decide)) (O_isub X dX7_rankOf_76)) (fun v0 v1 v2 st mm a b hd hc hs h => g_callS (st := st) X hT htr (M_X7_in v0 v1 v2) lk_X7_in st_X7_in ml_X7_139 rfl (by rw [hR]; exact ⟨Nat.le_of_ble_eq_true rfl, Nat.le_of_ble_eq_true rfl⟩) (Nat.le_trans hd (by decide)) ⟨hc, hs⟩ dX7_rankOf_77 h)) (Z_ne_F X dX7_rankOf_80 (by decide))) (XE_4 (pB := pI) wR wI wI (L_aload_n (r := (some this)) 6 X dX7_rankOf_83 rfl rfl) (L_iload_n (x := person_) 7 X dX7_rankOf_84 rfl rfl) (L_iload (x := s3.2) 4 X dX7_rankOf_85 rfl) (L_iload (x := s12.2) 2 X dX7_rankOf_87 rfl) (fun v0 v1 v2 v3 st mm a b hd hc hs h => g_callVo (st := st) (cI := 8) X hT htr rfl (fun q => M_X7_rankFor q v1 v2 v3) lk_X7_rankFor im_X7_rankFor se_X7_rankFor ml_X7_349 rfl (by rw [hR]; exact ⟨Nat.le_of_ble_eq_true rfl, Nat.le_of_ble_eq_true rfl⟩) (Nat.le_trans hd (by decide)) ⟨hc, hs⟩ dX7_rankOf_89 h)) (S_goto X dX7_rankOf_92 (by decide)) (L_iconst (v := 0) X dX7_rankOf_95 (by decide))) (S_istore (ev := fun rank_42 => [(10, .int rank_42), (9, .int from_25), (8, .int by_21), (7, .int s12.2), (5, .long set_10), (4, .int s3.2), (3, .int s12.1), (0, va_rf (some this)), (1, .int person_), (2, .int when_)]) X dX7_rankOf_96 (by rw [hN]; decide) (fun _ => rfl)) fun rank_42 =>
  (ST_let (XE_tern (CE_2 wI (L_iload (x := rank_42) 0 X dX7_rankOf_98 rfl) (L_iload_n (x := s12.1) 6 X dX7_rankOf_100 rfl rfl) (C_gt_F X dX7_rankOf_101 (by decide))) (L_iload (x := rank_42) 0 X dX7_rankOf_104 rfl) (S_goto X dX7_rankOf_106 (by decide)) (L_iload_n (x := s12.1) 6 X dX7_rankOf_109 rfl rfl)) (S_istore_n (ev := fun most_46 => [(3, .int most_46), (10, .int rank_42), (9, .int from_25), (8, .int by_21), (7, .int s12.2), (5, .long set_10), (4, .int s3.2), (0, va_rf (some this)), (1, .int person_), (2, .int when_)]) X dX7_rankOf_110 rfl (by rw [hN]; decide) (fun _ => rfl)) fun most_46 =>
  (ST_done (upd := (fun (s : Int32) => [(7, .int s12.2), (5, .long set_10), (4, .int s3.2), (3, .int s), (0, va_rf (some this)), (1, .int person_), (2, .int when_)])) (s := most_46) [4, 5, 6, 0, 7, 8, 9] rfl)))))
  (ST_done (upd := (fun (s : Int32) => [(7, .int s12.2), (5, .long set_10), (4, .int s3.2), (3, .int s), (0, va_rf (some this)), (1, .int person_), (2, .int when_)])) (s := s12.1) [0, 1, 2, 3, 4, 5, 6] rfl)) fun s48 =>
  (ST_pre (env' := [(7, .int (s12.2 + 1)), (5, .long set_10), (4, .int s3.2), (3, .int s48), (0, va_rf (some this)), (1, .int person_), (2, .int when_)]) (S_iinc 0 X dX7_rankOf_111 rfl rfl (by rw [hN]; decide) rfl)
  (ST_done (upd := (fun (s : Int32 × Int32) => [(7, .int s.2), (5, .long set_10), (4, .int s3.2), (3, .int s.1), (0, va_rf (some this)), (1, .int person_), (2, .int when_)])) (s := (s48, (s12.2 + 1))) [0, 1, 2, 3, 4, 5, 6] rfl))) fun _ mm a b h => S_goto X dX7_rankOf_114 (by decide) [] mm a b h))) fun s49 =>
  (ST_pre (env' := [(4, .int (s3.2 + 1)), (7, .int s49.2), (5, .long set_10), (3, .int s49.1), (0, va_rf (some this)), (1, .int person_), (2, .int when_)]) (S_iinc 2 X dX7_rankOf_117 rfl rfl (by rw [hN]; decide) rfl)
  (ST_done (upd := (fun (s : Int32 × Int32) => [(4, .int s.2), (3, .int s.1), (0, va_rf (some this)), (1, .int person_), (2, .int when_)])) (s := (s49.1, (s3.2 + 1))) [0, 3, 4, 5, 6] rfl))))) fun _ mm a b h => S_goto X dX7_rankOf_120 (by decide) [] mm a b h))) fun s50 =>
  (SB_retI X C hr dX7_rankOf_124 (L_iload_n (x := s50.1) 1 X dX7_rankOf_123 rfl rfl))))) h (by rw [hR]; decide) (by rw [hR]; decide)
theorem dX7_rank_0 : decode cX7_rank 0 = .ok (.aload_n 0, 1) := by decide +kernel
theorem dX7_rank_1 : decode cX7_rank 1 = .ok (.iload_n 1, 1) := by decide +kernel
theorem dX7_rank_2 : decode cX7_rank 2 = .ok (.invokestatic 202, 3) := by decide +kernel
theorem dX7_rank_5 : decode cX7_rank 5 = .ok (.iload_n 2, 1) := by decide +kernel
theorem dX7_rank_6 : decode cX7_rank 6 = .ok (.bipush (-48), 2) := by decide +kernel
theorem dX7_rank_8 : decode cX7_rank 8 = .ok (.sipush 1600, 3) := by decide +kernel
theorem dX7_rank_11 : decode cX7_rank 11 = .ok (.invokestatic 139, 3) := by decide +kernel
theorem dX7_rank_14 : decode cX7_rank 14 = .ok (.iconst 1, 1) := by decide +kernel
theorem dX7_rank_15 : decode cX7_rank 15 = .ok (.invokevirtual 153, 3) := by decide +kernel
theorem dX7_rank_18 : decode cX7_rank 18 = .ok (.ifCond .eq 12, 3) := by decide +kernel
theorem dX7_rank_21 : decode cX7_rank 21 = .ok (.aload_n 0, 1) := by decide +kernel
theorem dX7_rank_22 : decode cX7_rank 22 = .ok (.iload_n 1, 1) := by decide +kernel
theorem dX7_rank_23 : decode cX7_rank 23 = .ok (.iload_n 2, 1) := by decide +kernel
theorem dX7_rank_24 : decode cX7_rank 24 = .ok (.invokevirtual 352, 3) := by decide +kernel
theorem dX7_rank_27 : decode cX7_rank 27 = .ok (.goto 4, 3) := by decide +kernel
theorem dX7_rank_30 : decode cX7_rank 30 = .ok (.iconst 0, 1) := by decide +kernel
theorem dX7_rank_31 : decode cX7_rank 31 = .ok (.ireturn, 1) := by decide +kernel
theorem lk_X7_rank : LK yX7_rank cX7_rank 3 (some .int) 2 := ⟨qW_at 1805 (by decide +kernel) rfl, qW_at 78 (by decide +kernel) rfl, by decide, by decide, by decide +kernel⟩
theorem im_X7_rank : Cond.instanceMethod yX7_rank ∈ qW := qW_at 1803 (by decide +kernel) rfl
theorem se_X7_rank : Cond.selects RX7 yX7_rank yX7_rank ∈ qW := qW_at 1804 (by decide +kernel) rfl
def F_X7_rank (this : Nat) (person_ : Int32) (when_ : Int32) : QX Int32 :=
  (xb (xb (xb (xp (some this)) fun v5 => xb (xb (xp person_) fun v1 => F_X7_isPerson v1) fun v6 => xb (xb (xp when_) fun v2 => xb (xp (-48 : Int32)) fun v3 => xb (xp (1600 : Int32)) fun v4 => F_X7_in v2 v3 v4) fun v7 => xb (xp (1 : Int32)) fun v8 => xo 8 v5 fun q => F_X7_goes q v6 v7 v8) fun v9 => xp (decide (¬ v9 = 0))) fun v13 => if v13 then (xb (xp (some this)) fun v10 => xb (xp person_) fun v11 => xb (xp when_) fun v12 => xo 8 v10 fun q => F_X7_rankOf q v11 v12) else (xp (0 : Int32)))
set_option maxRecDepth 100000 in
set_option maxHeartbeats 4000000 in
theorem M_X7_rank (this : Nat) (person_ : Int32) (when_ : Int32) : MM yX7_rank cX7_rank 3 (some .int) 5 127 0 0 encI [.ref this, .int person_, .int when_] (F_X7_rank this person_ when_) := by
  refine MM_of (env0 := [(0, va_rf (some this)), (1, .int person_), (2, .int when_)]) (by decide) (by exact Nat.le_of_ble_eq_true rfl) (by rfl) (fun k mm res X C hR hN hr hname h => ?_)
  have X : CX k cX7_rank RX7 := X
  have hT : TH k (fun e m' => res = (.error e, m')) := TH_of C
  have htr := C.2.2.2.1
  unfold F_X7_rank at h
  exact SB_go (T := fun e m' => res = (.error e, m')) (RET := fun v m' => res = (.ok v, m')) (SB_retI X C hr dX7_rank_31 (XE_tern (CE_1 (XE_4 (pB := pI) wR wI wI (L_aload_n (r := (some this)) 0 X dX7_rank_0 rfl rfl) (XE_1 (pB := pI)  (L_iload_n (x := person_) 1 X dX7_rank_1 rfl rfl) (fun v0 st mm a b hd hc hs h => g_callS (st := st) X hT htr (M_X7_isPerson v0) lk_X7_isPerson st_X7_isPerson ml_X7_202 rfl (by rw [hR]; exact ⟨Nat.le_of_ble_eq_true rfl, Nat.le_of_ble_eq_true rfl⟩) (Nat.le_trans hd (by decide)) ⟨hc, hs⟩ dX7_rank_2 h)) (XE_3 (pB := pI) wI wI (L_iload_n (x := when_) 2 X dX7_rank_5 rfl rfl) (L_bipush (v := (-48)) X dX7_rank_6 (by decide)) (L_sipush (v := (1600)) X dX7_rank_8 (by decide)) (fun v0 v1 v2 st mm a b hd hc hs h => g_callS (st := st) X hT htr (M_X7_in v0 v1 v2) lk_X7_in st_X7_in ml_X7_139 rfl (by rw [hR]; exact ⟨Nat.le_of_ble_eq_true rfl, Nat.le_of_ble_eq_true rfl⟩) (Nat.le_trans hd (by decide)) ⟨hc, hs⟩ dX7_rank_11 h)) (L_iconst (v := 1) X dX7_rank_14 (by decide)) (fun v0 v1 v2 v3 st mm a b hd hc hs h => g_callVo (st := st) (cI := 8) X hT htr rfl (fun q => M_X7_goes q v1 v2 v3) lk_X7_goes im_X7_goes se_X7_goes ml_X7_153 rfl (by rw [hR]; exact ⟨Nat.le_of_ble_eq_true rfl, Nat.le_of_ble_eq_true rfl⟩) (Nat.le_trans hd (by decide)) ⟨hc, hs⟩ dX7_rank_15 h)) (Z_ne_F X dX7_rank_18 (by decide))) (XE_3 (pB := pI) wR wI (L_aload_n (r := (some this)) 0 X dX7_rank_21 rfl rfl) (L_iload_n (x := person_) 1 X dX7_rank_22 rfl rfl) (L_iload_n (x := when_) 2 X dX7_rank_23 rfl rfl) (fun v0 v1 v2 st mm a b hd hc hs h => g_callVo (st := st) (cI := 8) X hT htr rfl (fun q => M_X7_rankOf q v1 v2) lk_X7_rankOf im_X7_rankOf se_X7_rankOf ml_X7_352 rfl (by rw [hR]; exact ⟨Nat.le_of_ble_eq_true rfl, Nat.le_of_ble_eq_true rfl⟩) (Nat.le_trans hd (by decide)) ⟨hc, hs⟩ dX7_rank_24 h)) (S_goto X dX7_rank_27 (by decide)) (L_iconst (v := 0) X dX7_rank_30 (by decide)))) h (by rw [hR]; decide) (by rw [hR]; decide)
theorem dX7_laysBusy_0 : decode cX7_laysBusy 0 = .ok (.aload_n 0, 1) := by decide +kernel
theorem dX7_laysBusy_1 : decode cX7_laysBusy 1 = .ok (.iload_n 1, 1) := by decide +kernel
theorem dX7_laysBusy_2 : decode cX7_laysBusy 2 = .ok (.iload_n 2, 1) := by decide +kernel
theorem dX7_laysBusy_3 : decode cX7_laysBusy 3 = .ok (.invokevirtual 326, 3) := by decide +kernel
theorem dX7_laysBusy_6 : decode cX7_laysBusy 6 = .ok (.lstore_n 3, 1) := by decide +kernel
theorem dX7_laysBusy_7 : decode cX7_laysBusy 7 = .ok (.iconst 0, 1) := by decide +kernel
theorem dX7_laysBusy_8 : decode cX7_laysBusy 8 = .ok (.istore 5, 2) := by decide +kernel
theorem dX7_laysBusy_10 : decode cX7_laysBusy 10 = .ok (.iload 5, 2) := by decide +kernel
theorem dX7_laysBusy_12 : decode cX7_laysBusy 12 = .ok (.bipush 60, 2) := by decide +kernel
theorem dX7_laysBusy_14 : decode cX7_laysBusy 14 = .ok (.if_icmp .ge 84, 3) := by decide +kernel
theorem dX7_laysBusy_17 : decode cX7_laysBusy 17 = .ok (.lload_n 3, 1) := by decide +kernel
theorem dX7_laysBusy_18 : decode cX7_laysBusy 18 = .ok (.iload 5, 2) := by decide +kernel
theorem dX7_laysBusy_20 : decode cX7_laysBusy 20 = .ok (.invokestatic 180, 3) := by decide +kernel
theorem dX7_laysBusy_23 : decode cX7_laysBusy 23 = .ok (.ifCond .eq 69, 3) := by decide +kernel
theorem dX7_laysBusy_26 : decode cX7_laysBusy 26 = .ok (.aload_n 0, 1) := by decide +kernel
theorem dX7_laysBusy_27 : decode cX7_laysBusy 27 = .ok (.iload_n 1, 1) := by decide +kernel
theorem dX7_laysBusy_28 : decode cX7_laysBusy 28 = .ok (.iload_n 2, 1) := by decide +kernel
theorem dX7_laysBusy_29 : decode cX7_laysBusy 29 = .ok (.iload 5, 2) := by decide +kernel
theorem dX7_laysBusy_31 : decode cX7_laysBusy 31 = .ok (.invokevirtual 349, 3) := by decide +kernel
theorem dX7_laysBusy_34 : decode cX7_laysBusy 34 = .ok (.iconst 2, 1) := by decide +kernel
theorem dX7_laysBusy_35 : decode cX7_laysBusy 35 = .ok (.if_icmp .ne 57, 3) := by decide +kernel
theorem dX7_laysBusy_38 : decode cX7_laysBusy 38 = .ok (.aload_n 0, 1) := by decide +kernel
theorem dX7_laysBusy_39 : decode cX7_laysBusy 39 = .ok (.iload_n 1, 1) := by decide +kernel
theorem dX7_laysBusy_40 : decode cX7_laysBusy 40 = .ok (.iload_n 2, 1) := by decide +kernel
theorem dX7_laysBusy_41 : decode cX7_laysBusy 41 = .ok (.invokevirtual 323, 3) := by decide +kernel
theorem dX7_laysBusy_44 : decode cX7_laysBusy 44 = .ok (.istore 6, 2) := by decide +kernel
theorem dX7_laysBusy_46 : decode cX7_laysBusy 46 = .ok (.bipush 48, 2) := by decide +kernel
theorem dX7_laysBusy_48 : decode cX7_laysBusy 48 = .ok (.aload_n 0, 1) := by decide +kernel
theorem dX7_laysBusy_49 : decode cX7_laysBusy 49 = .ok (.iload 6, 2) := by decide +kernel
theorem dX7_laysBusy_51 : decode cX7_laysBusy 51 = .ok (.iload 5, 2) := by decide +kernel
theorem dX7_laysBusy_53 : decode cX7_laysBusy 53 = .ok (.invokevirtual 336, 3) := by decide +kernel
theorem dX7_laysBusy_56 : decode cX7_laysBusy 56 = .ok (.iadd, 1) := by decide +kernel
theorem dX7_laysBusy_57 : decode cX7_laysBusy 57 = .ok (.istore 7, 2) := by decide +kernel
theorem dX7_laysBusy_59 : decode cX7_laysBusy 59 = .ok (.iload 7, 2) := by decide +kernel
theorem dX7_laysBusy_61 : decode cX7_laysBusy 61 = .ok (.istore 8, 2) := by decide +kernel
theorem dX7_laysBusy_63 : decode cX7_laysBusy 63 = .ok (.iload 8, 2) := by decide +kernel
theorem dX7_laysBusy_65 : decode cX7_laysBusy 65 = .ok (.iload 7, 2) := by decide +kernel
theorem dX7_laysBusy_67 : decode cX7_laysBusy 67 = .ok (.aload_n 0, 1) := by decide +kernel
theorem dX7_laysBusy_68 : decode cX7_laysBusy 68 = .ok (.getfield 44, 3) := by decide +kernel
theorem dX7_laysBusy_71 : decode cX7_laysBusy 71 = .ok (.iload 6, 2) := by decide +kernel
theorem dX7_laysBusy_73 : decode cX7_laysBusy 73 = .ok (.iaload, 1) := by decide +kernel
theorem dX7_laysBusy_74 : decode cX7_laysBusy 74 = .ok (.iadd, 1) := by decide +kernel
theorem dX7_laysBusy_75 : decode cX7_laysBusy 75 = .ok (.if_icmp .ge 17, 3) := by decide +kernel
theorem dX7_laysBusy_78 : decode cX7_laysBusy 78 = .ok (.aload_n 0, 1) := by decide +kernel
theorem dX7_laysBusy_79 : decode cX7_laysBusy 79 = .ok (.getfield 132, 3) := by decide +kernel
theorem dX7_laysBusy_82 : decode cX7_laysBusy 82 = .ok (.iload 8, 2) := by decide +kernel
theorem dX7_laysBusy_84 : decode cX7_laysBusy 84 = .ok (.iconst 1, 1) := by decide +kernel
theorem dX7_laysBusy_85 : decode cX7_laysBusy 85 = .ok (.bastore, 1) := by decide +kernel
theorem dX7_laysBusy_86 : decode cX7_laysBusy 86 = .ok (.iinc 8 1, 3) := by decide +kernel
theorem dX7_laysBusy_89 : decode cX7_laysBusy 89 = .ok (.goto (-26), 3) := by decide +kernel
theorem dX7_laysBusy_92 : decode cX7_laysBusy 92 = .ok (.iinc 5 1, 3) := by decide +kernel
theorem dX7_laysBusy_95 : decode cX7_laysBusy 95 = .ok (.goto (-85), 3) := by decide +kernel
theorem dX7_laysBusy_98 : decode cX7_laysBusy 98 = .ok (.return_, 1) := by decide +kernel
theorem lk_X7_laysBusy : LK yX7_laysBusy cX7_laysBusy 9 none 2 := ⟨qW_at 1821 (by decide +kernel) rfl, qW_at 78 (by decide +kernel) rfl, by decide, by decide, by decide +kernel⟩
theorem im_X7_laysBusy : Cond.instanceMethod yX7_laysBusy ∈ qW := qW_at 1820 (by decide +kernel) rfl
theorem se_X7_laysBusy : Cond.selects RX7 yX7_laysBusy yX7_laysBusy ∈ qW := qW_at 71 (by decide +kernel) rfl
def F_X7_laysBusy (this : Nat) (person_ : Int32) (its_ : Int32) : QX Unit :=
  (xb (xb (xp (some this)) fun v1 => xb (xp person_) fun v2 => xb (xp its_) fun v3 => xo 8 v1 fun q => F_X7_datesOf q v2 v3) fun set_4 =>
  (xb (xp (0 : Int32)) fun k_5 =>
  (xb (xl 2000 (fun (s6 : Int32) => (xb (xp s6) fun v7 => xb (xp (60 : Int32)) fun v8 => xp (decide (v7 < v8)))) (fun (s6 : Int32) =>
  (xb (xb (xb (xb (xb (xp set_4) fun v9 => xb (xp s6) fun v10 => F_X7_has v9 v10) fun v11 => xp (decide (¬ v11 = 0))) fun v18 => if v18 then (xb (xb (xp (some this)) fun v12 => xb (xp person_) fun v13 => xb (xp its_) fun v14 => xb (xp s6) fun v15 => xo 8 v12 fun q => F_X7_rankFor q v13 v14 v15) fun v16 => xb (xp (2 : Int32)) fun v17 => xp (decide (v16 = v17))) else xp false) fun v43 => if v43 then (xb (xb (xp (some this)) fun v19 => xb (xp person_) fun v20 => xb (xp its_) fun v21 => xo 8 v19 fun q => F_X7_versionOf q v20 v21) fun by_22 =>
  (xb (xb (xp (48 : Int32)) fun v26 => xb (xb (xp (some this)) fun v23 => xb (xp by_22) fun v24 => xb (xp s6) fun v25 => xo 8 v23 fun q => F_X7_beginOf q v24 v25) fun v27 => (xp (v26 + v27))) fun from_28 =>
  (xb (xp from_28) fun n_29 =>
  (xb (xl 2000 (fun (s30 : Int32) => (xb (xp s30) fun v31 => xb (xb (xp from_28) fun v35 => xb (xb (xb (xp (some this)) fun v32 => xgr 8 13 v32) fun v33 => xb (xp by_22) fun v34 => xai 0 v33 v34) fun v36 => (xp (v35 + v36))) fun v37 => xp (decide (v31 < v37)))) (fun (s30 : Int32) =>
  (xb (xb (xb (xp (some this)) fun v38 => xgr 8 44 v38) fun v39 => xb (xp s30) fun v40 => xb (xp (1 : Int32)) fun v41 => xsaz v39 v40 v41) fun _ =>
  (xp (s30 + 1)))) n_29) fun s42 =>
  (xp ()))))) else (xp ())) fun s44 =>
  (xp (s6 + 1)))) k_5) fun s45 =>
  (xp ()))))
set_option maxRecDepth 100000 in
set_option maxHeartbeats 4000000 in
theorem M_X7_laysBusy (this : Nat) (person_ : Int32) (its_ : Int32) : MM yX7_laysBusy cX7_laysBusy 9 none 4 97 0 0 encU [.ref this, .int person_, .int its_] (F_X7_laysBusy this person_ its_) := by
  refine MM_of (env0 := [(0, va_rf (some this)), (1, .int person_), (2, .int its_)]) (by decide) (by exact Nat.le_of_ble_eq_true rfl) (by rfl) (fun k mm res X C hR hN hr hname h => ?_)
  have X : CX k cX7_laysBusy RX7 := X
  have hT : TH k (fun e m' => res = (.error e, m')) := TH_of C
  have htr := C.2.2.2.1
  unfold F_X7_laysBusy at h
  exact SB_go (T := fun e m' => res = (.error e, m')) (RET := fun v m' => res = (.ok v, m')) (SB_let (XE_3 (pB := pL) wR wI (L_aload_n (r := (some this)) 0 X dX7_laysBusy_0 rfl rfl) (L_iload_n (x := person_) 1 X dX7_laysBusy_1 rfl rfl) (L_iload_n (x := its_) 2 X dX7_laysBusy_2 rfl rfl) (fun v0 v1 v2 st mm a b hd hc hs h => g_callVo (st := st) (cI := 8) X hT htr rfl (fun q => M_X7_datesOf q v1 v2) lk_X7_datesOf im_X7_datesOf se_X7_datesOf ml_X7_326 rfl (by rw [hR]; exact ⟨Nat.le_of_ble_eq_true rfl, Nat.le_of_ble_eq_true rfl⟩) (Nat.le_trans hd (by decide)) ⟨hc, hs⟩ dX7_laysBusy_3 h)) (S_lstore_n (ev := fun set_4 => [(3, .long set_4), (0, va_rf (some this)), (1, .int person_), (2, .int its_)]) X dX7_laysBusy_6 rfl (by rw [hN]; decide) (fun _ => rfl)) fun set_4 =>
  (SB_let (L_iconst (v := 0) X dX7_laysBusy_7 (by decide)) (S_istore (ev := fun k_5 => [(5, .int k_5), (3, .long set_4), (0, va_rf (some this)), (1, .int person_), (2, .int its_)]) X dX7_laysBusy_8 (by rw [hN]; decide) (fun _ => rfl)) fun k_5 =>
  (SB_seq (ST_loop (σ := Int32) (upd := (fun (s : Int32) => [(5, .int s), (3, .long set_4), (0, va_rf (some this)), (1, .int person_), (2, .int its_)])) (s0 := k_5) (n := 2000) (fun mm a b h => GG_sub [0, 1, 2, 3, 4] rfl h)
  (fun s6 => (CE_2 wI (L_iload (x := s6) 0 X dX7_laysBusy_10 rfl) (L_bipush (v := (60)) X dX7_laysBusy_12 (by decide)) (C_lt_F X dX7_laysBusy_14 (by decide))))
  (fun s6 => (ST_post (ST_seq (ST_if (CE_and (CE_1 (XE_2 (pB := pI) wL (L_lload_n (x := set_4) 1 X dX7_laysBusy_17 rfl rfl) (L_iload (x := s6) 0 X dX7_laysBusy_18 rfl) (fun v0 v1 st mm a b hd hc hs h => g_callS (st := st) X hT htr (M_X7_has v0 v1) lk_X7_has st_X7_has ml_X7_180 rfl (by rw [hR]; exact ⟨Nat.le_of_ble_eq_true rfl, Nat.le_of_ble_eq_true rfl⟩) (Nat.le_trans hd (by decide)) ⟨hc, hs⟩ dX7_laysBusy_20 h)) (Z_ne_F X dX7_laysBusy_23 (by decide))) (CE_2 wI (XE_4 (pB := pI) wR wI wI (L_aload_n (r := (some this)) 2 X dX7_laysBusy_26 rfl rfl) (L_iload_n (x := person_) 3 X dX7_laysBusy_27 rfl rfl) (L_iload_n (x := its_) 4 X dX7_laysBusy_28 rfl rfl) (L_iload (x := s6) 0 X dX7_laysBusy_29 rfl) (fun v0 v1 v2 v3 st mm a b hd hc hs h => g_callVo (st := st) (cI := 8) X hT htr rfl (fun q => M_X7_rankFor q v1 v2 v3) lk_X7_rankFor im_X7_rankFor se_X7_rankFor ml_X7_349 rfl (by rw [hR]; exact ⟨Nat.le_of_ble_eq_true rfl, Nat.le_of_ble_eq_true rfl⟩) (Nat.le_trans hd (by decide)) ⟨hc, hs⟩ dX7_laysBusy_31 h)) (L_iconst (v := 2) X dX7_laysBusy_34 (by decide)) (C_eq_F X dX7_laysBusy_35 (by decide))))
  (ST_let (XE_3 (pB := pI) wR wI (L_aload_n (r := (some this)) 2 X dX7_laysBusy_38 rfl rfl) (L_iload_n (x := person_) 3 X dX7_laysBusy_39 rfl rfl) (L_iload_n (x := its_) 4 X dX7_laysBusy_40 rfl rfl) (fun v0 v1 v2 st mm a b hd hc hs h => g_callVo (st := st) (cI := 8) X hT htr rfl (fun q => M_X7_versionOf q v1 v2) lk_X7_versionOf im_X7_versionOf se_X7_versionOf ml_X7_323 rfl (by rw [hR]; exact ⟨Nat.le_of_ble_eq_true rfl, Nat.le_of_ble_eq_true rfl⟩) (Nat.le_trans hd (by decide)) ⟨hc, hs⟩ dX7_laysBusy_41 h)) (S_istore (ev := fun by_22 => [(6, .int by_22), (5, .int s6), (3, .long set_4), (0, va_rf (some this)), (1, .int person_), (2, .int its_)]) X dX7_laysBusy_44 (by rw [hN]; decide) (fun _ => rfl)) fun by_22 =>
  (ST_let (XE_2 wI (L_bipush (v := (48)) X dX7_laysBusy_46 (by decide)) (XE_3 (pB := pI) wR wI (L_aload_n (r := (some this)) 3 X dX7_laysBusy_48 rfl rfl) (L_iload (x := by_22) 0 X dX7_laysBusy_49 rfl) (L_iload (x := s6) 1 X dX7_laysBusy_51 rfl) (fun v0 v1 v2 st mm a b hd hc hs h => g_callVo (st := st) (cI := 8) X hT htr rfl (fun q => M_X7_beginOf q v1 v2) lk_X7_beginOf im_X7_beginOf se_X7_beginOf ml_X7_336 rfl (by rw [hR]; exact ⟨Nat.le_of_ble_eq_true rfl, Nat.le_of_ble_eq_true rfl⟩) (Nat.le_trans hd (by decide)) ⟨hc, hs⟩ dX7_laysBusy_53 h)) (O_iadd X dX7_laysBusy_56)) (S_istore (ev := fun from_28 => [(7, .int from_28), (6, .int by_22), (5, .int s6), (3, .long set_4), (0, va_rf (some this)), (1, .int person_), (2, .int its_)]) X dX7_laysBusy_57 (by rw [hN]; decide) (fun _ => rfl)) fun from_28 =>
  (ST_let (L_iload (x := from_28) 0 X dX7_laysBusy_59 rfl) (S_istore (ev := fun n_29 => [(8, .int n_29), (7, .int from_28), (6, .int by_22), (5, .int s6), (3, .long set_4), (0, va_rf (some this)), (1, .int person_), (2, .int its_)]) X dX7_laysBusy_61 (by rw [hN]; decide) (fun _ => rfl)) fun n_29 =>
  (ST_seq (ST_loop (σ := Int32) (upd := (fun (s : Int32) => [(8, .int s), (7, .int from_28), (6, .int by_22), (5, .int s6), (3, .long set_4), (0, va_rf (some this)), (1, .int person_), (2, .int its_)])) (s0 := n_29) (n := 2000) (fun mm a b h => GG_sub [0, 1, 2, 3, 4, 5, 6, 7] rfl h)
  (fun s30 => (CE_2 wI (L_iload (x := s30) 0 X dX7_laysBusy_63 rfl) (XE_2 wI (L_iload (x := from_28) 1 X dX7_laysBusy_65 rfl) (XE_2 wR (XE_1 (L_aload_n (r := (some this)) 5 X dX7_laysBusy_67 rfl rfl) (O_gr (c := 8) (j := 13) X rfl inW7 (by decide) fl_X7_44 rfl dX7_laysBusy_68)) (L_iload (x := by_22) 2 X dX7_laysBusy_71 rfl) (O_ai X dX7_laysBusy_73)) (O_iadd X dX7_laysBusy_74)) (C_lt_F X dX7_laysBusy_75 (by decide))))
  (fun s30 => (ST_post (ST_do (XE_3 wR wI (XE_1 (L_aload_n (r := (some this)) 5 X dX7_laysBusy_78 rfl rfl) (O_gr (c := 8) (j := 44) X rfl inW7 (by decide) fl_X7_132 rfl dX7_laysBusy_79)) (L_iload (x := s30) 0 X dX7_laysBusy_82 rfl) (L_iconst (v := 1) X dX7_laysBusy_84 (by decide)) (O_saz X dX7_laysBusy_85))
  (ST_pre (env' := [(8, .int (s30 + 1)), (7, .int from_28), (6, .int by_22), (5, .int s6), (3, .long set_4), (0, va_rf (some this)), (1, .int person_), (2, .int its_)]) (S_iinc 0 X dX7_laysBusy_86 rfl rfl (by rw [hN]; decide) rfl)
  (ST_done (upd := (fun (s : Int32) => [(8, .int s), (7, .int from_28), (6, .int by_22), (5, .int s6), (3, .long set_4), (0, va_rf (some this)), (1, .int person_), (2, .int its_)])) (s := (s30 + 1)) [0, 1, 2, 3, 4, 5, 6, 7] rfl))) fun _ mm a b h => S_goto X dX7_laysBusy_89 (by decide) [] mm a b h))) fun s42 =>
  (ST_done (upd := (fun (s : Unit) => [(5, .int s6), (3, .long set_4), (0, va_rf (some this)), (1, .int person_), (2, .int its_)])) (s := ()) [3, 4, 5, 6, 7] rfl)))))
  (ST_done (upd := (fun (s : Unit) => [(5, .int s6), (3, .long set_4), (0, va_rf (some this)), (1, .int person_), (2, .int its_)])) (s := ()) [0, 1, 2, 3, 4] rfl)) fun s44 =>
  (ST_pre (env' := [(5, .int (s6 + 1)), (3, .long set_4), (0, va_rf (some this)), (1, .int person_), (2, .int its_)]) (S_iinc 0 X dX7_laysBusy_92 rfl rfl (by rw [hN]; decide) rfl)
  (ST_done (upd := (fun (s : Int32) => [(5, .int s), (3, .long set_4), (0, va_rf (some this)), (1, .int person_), (2, .int its_)])) (s := (s6 + 1)) [0, 1, 2, 3, 4] rfl))) fun _ mm a b h => S_goto X dX7_laysBusy_95 (by decide) [] mm a b h))) fun s45 =>
  (SB_retU X C hr dX7_laysBusy_98)))) h (by rw [hR]; decide) (by rw [hR]; decide)
theorem dX7_firstFree_0 : decode cX7_firstFree 0 = .ok (.aload_n 0, 1) := by decide +kernel
theorem dX7_firstFree_1 : decode cX7_firstFree 1 = .ok (.iload_n 1, 1) := by decide +kernel
theorem dX7_firstFree_2 : decode cX7_firstFree 2 = .ok (.iconst 1, 1) := by decide +kernel
theorem dX7_firstFree_3 : decode cX7_firstFree 3 = .ok (.bipush 31, 2) := by decide +kernel
theorem dX7_firstFree_5 : decode cX7_firstFree 5 = .ok (.invokestatic 139, 3) := by decide +kernel
theorem dX7_firstFree_8 : decode cX7_firstFree 8 = .ok (.ifCond .eq 29, 3) := by decide +kernel
theorem dX7_firstFree_11 : decode cX7_firstFree 11 = .ok (.iload_n 2, 1) := by decide +kernel
theorem dX7_firstFree_12 : decode cX7_firstFree 12 = .ok (.bipush (-48), 2) := by decide +kernel
theorem dX7_firstFree_14 : decode cX7_firstFree 14 = .ok (.sipush 1500, 3) := by decide +kernel
theorem dX7_firstFree_17 : decode cX7_firstFree 17 = .ok (.invokestatic 139, 3) := by decide +kernel
theorem dX7_firstFree_20 : decode cX7_firstFree 20 = .ok (.ifCond .eq 17, 3) := by decide +kernel
theorem dX7_firstFree_23 : decode cX7_firstFree 23 = .ok (.iload_n 3, 1) := by decide +kernel
theorem dX7_firstFree_24 : decode cX7_firstFree 24 = .ok (.iconst 1, 1) := by decide +kernel
theorem dX7_firstFree_25 : decode cX7_firstFree 25 = .ok (.bipush 48, 2) := by decide +kernel
theorem dX7_firstFree_27 : decode cX7_firstFree 27 = .ok (.invokestatic 139, 3) := by decide +kernel
theorem dX7_firstFree_30 : decode cX7_firstFree 30 = .ok (.ifCond .eq 7, 3) := by decide +kernel
theorem dX7_firstFree_33 : decode cX7_firstFree 33 = .ok (.iconst 1, 1) := by decide +kernel
theorem dX7_firstFree_34 : decode cX7_firstFree 34 = .ok (.goto 4, 3) := by decide +kernel
theorem dX7_firstFree_37 : decode cX7_firstFree 37 = .ok (.iconst 0, 1) := by decide +kernel
theorem dX7_firstFree_38 : decode cX7_firstFree 38 = .ok (.iconst 1, 1) := by decide +kernel
theorem dX7_firstFree_39 : decode cX7_firstFree 39 = .ok (.iconst 1, 1) := by decide +kernel
theorem dX7_firstFree_40 : decode cX7_firstFree 40 = .ok (.invokevirtual 153, 3) := by decide +kernel
theorem dX7_firstFree_43 : decode cX7_firstFree 43 = .ok (.ifCond .ne 5, 3) := by decide +kernel
theorem dX7_firstFree_46 : decode cX7_firstFree 46 = .ok (.iconst 0, 1) := by decide +kernel
theorem dX7_firstFree_47 : decode cX7_firstFree 47 = .ok (.ireturn, 1) := by decide +kernel
theorem dX7_firstFree_48 : decode cX7_firstFree 48 = .ok (.iconst 0, 1) := by decide +kernel
theorem dX7_firstFree_49 : decode cX7_firstFree 49 = .ok (.istore 4, 2) := by decide +kernel
theorem dX7_firstFree_51 : decode cX7_firstFree 51 = .ok (.iload 4, 2) := by decide +kernel
theorem dX7_firstFree_53 : decode cX7_firstFree 53 = .ok (.sipush 1650, 3) := by decide +kernel
theorem dX7_firstFree_56 : decode cX7_firstFree 56 = .ok (.if_icmp .ge 17, 3) := by decide +kernel
theorem dX7_firstFree_59 : decode cX7_firstFree 59 = .ok (.aload_n 0, 1) := by decide +kernel
theorem dX7_firstFree_60 : decode cX7_firstFree 60 = .ok (.getfield 132, 3) := by decide +kernel
theorem dX7_firstFree_63 : decode cX7_firstFree 63 = .ok (.iload 4, 2) := by decide +kernel
theorem dX7_firstFree_65 : decode cX7_firstFree 65 = .ok (.iconst 0, 1) := by decide +kernel
theorem dX7_firstFree_66 : decode cX7_firstFree 66 = .ok (.bastore, 1) := by decide +kernel
theorem dX7_firstFree_67 : decode cX7_firstFree 67 = .ok (.iinc 4 1, 3) := by decide +kernel
theorem dX7_firstFree_70 : decode cX7_firstFree 70 = .ok (.goto (-19), 3) := by decide +kernel
theorem dX7_firstFree_73 : decode cX7_firstFree 73 = .ok (.iconst 0, 1) := by decide +kernel
theorem dX7_firstFree_74 : decode cX7_firstFree 74 = .ok (.istore 4, 2) := by decide +kernel
theorem dX7_firstFree_76 : decode cX7_firstFree 76 = .ok (.iload 4, 2) := by decide +kernel
theorem dX7_firstFree_78 : decode cX7_firstFree 78 = .ok (.bipush 40, 2) := by decide +kernel
theorem dX7_firstFree_80 : decode cX7_firstFree 80 = .ok (.if_icmp .ge 48, 3) := by decide +kernel
theorem dX7_firstFree_83 : decode cX7_firstFree 83 = .ok (.iload_n 1, 1) := by decide +kernel
theorem dX7_firstFree_84 : decode cX7_firstFree 84 = .ok (.iload 4, 2) := by decide +kernel
theorem dX7_firstFree_86 : decode cX7_firstFree 86 = .ok (.bipush 8, 2) := by decide +kernel
theorem dX7_firstFree_88 : decode cX7_firstFree 88 = .ok (.idiv, 1) := by decide +kernel
theorem dX7_firstFree_89 : decode cX7_firstFree 89 = .ok (.ishr, 1) := by decide +kernel
theorem dX7_firstFree_90 : decode cX7_firstFree 90 = .ok (.iconst 1, 1) := by decide +kernel
theorem dX7_firstFree_91 : decode cX7_firstFree 91 = .ok (.iand, 1) := by decide +kernel
theorem dX7_firstFree_92 : decode cX7_firstFree 92 = .ok (.iconst 1, 1) := by decide +kernel
theorem dX7_firstFree_93 : decode cX7_firstFree 93 = .ok (.if_icmp .ne 29, 3) := by decide +kernel
theorem dX7_firstFree_96 : decode cX7_firstFree 96 = .ok (.iload 4, 2) := by decide +kernel
theorem dX7_firstFree_98 : decode cX7_firstFree 98 = .ok (.bipush 8, 2) := by decide +kernel
theorem dX7_firstFree_100 : decode cX7_firstFree 100 = .ok (.irem, 1) := by decide +kernel
theorem dX7_firstFree_101 : decode cX7_firstFree 101 = .ok (.aload_n 0, 1) := by decide +kernel
theorem dX7_firstFree_102 : decode cX7_firstFree 102 = .ok (.getfield 143, 3) := by decide +kernel
theorem dX7_firstFree_105 : decode cX7_firstFree 105 = .ok (.if_icmp .ge 17, 3) := by decide +kernel
theorem dX7_firstFree_108 : decode cX7_firstFree 108 = .ok (.aload_n 0, 1) := by decide +kernel
theorem dX7_firstFree_109 : decode cX7_firstFree 109 = .ok (.iload 4, 2) := by decide +kernel
theorem dX7_firstFree_111 : decode cX7_firstFree 111 = .ok (.bipush 8, 2) := by decide +kernel
theorem dX7_firstFree_113 : decode cX7_firstFree 113 = .ok (.idiv, 1) := by decide +kernel
theorem dX7_firstFree_114 : decode cX7_firstFree 114 = .ok (.iload 4, 2) := by decide +kernel
theorem dX7_firstFree_116 : decode cX7_firstFree 116 = .ok (.bipush 8, 2) := by decide +kernel
theorem dX7_firstFree_118 : decode cX7_firstFree 118 = .ok (.irem, 1) := by decide +kernel
theorem dX7_firstFree_119 : decode cX7_firstFree 119 = .ok (.invokevirtual 355, 3) := by decide +kernel
theorem dX7_firstFree_122 : decode cX7_firstFree 122 = .ok (.iinc 4 1, 3) := by decide +kernel
theorem dX7_firstFree_125 : decode cX7_firstFree 125 = .ok (.goto (-49), 3) := by decide +kernel
theorem dX7_firstFree_128 : decode cX7_firstFree 128 = .ok (.iload_n 2, 1) := by decide +kernel
theorem dX7_firstFree_129 : decode cX7_firstFree 129 = .ok (.istore 4, 2) := by decide +kernel
theorem dX7_firstFree_131 : decode cX7_firstFree 131 = .ok (.iconst 0, 1) := by decide +kernel
theorem dX7_firstFree_132 : decode cX7_firstFree 132 = .ok (.istore 5, 2) := by decide +kernel
theorem dX7_firstFree_134 : decode cX7_firstFree 134 = .ok (.iload_n 2, 1) := by decide +kernel
theorem dX7_firstFree_135 : decode cX7_firstFree 135 = .ok (.bipush 48, 2) := by decide +kernel
theorem dX7_firstFree_137 : decode cX7_firstFree 137 = .ok (.iadd, 1) := by decide +kernel
theorem dX7_firstFree_138 : decode cX7_firstFree 138 = .ok (.istore 6, 2) := by decide +kernel
theorem dX7_firstFree_140 : decode cX7_firstFree 140 = .ok (.iload 5, 2) := by decide +kernel
theorem dX7_firstFree_142 : decode cX7_firstFree 142 = .ok (.iload_n 3, 1) := by decide +kernel
theorem dX7_firstFree_143 : decode cX7_firstFree 143 = .ok (.if_icmp .ge 53, 3) := by decide +kernel
theorem dX7_firstFree_146 : decode cX7_firstFree 146 = .ok (.aload_n 0, 1) := by decide +kernel
theorem dX7_firstFree_147 : decode cX7_firstFree 147 = .ok (.getfield 132, 3) := by decide +kernel
theorem dX7_firstFree_150 : decode cX7_firstFree 150 = .ok (.iload 6, 2) := by decide +kernel
theorem dX7_firstFree_152 : decode cX7_firstFree 152 = .ok (.baload, 1) := by decide +kernel
theorem dX7_firstFree_153 : decode cX7_firstFree 153 = .ok (.ifCond .eq 7, 3) := by decide +kernel
theorem dX7_firstFree_156 : decode cX7_firstFree 156 = .ok (.iconst 0, 1) := by decide +kernel
theorem dX7_firstFree_157 : decode cX7_firstFree 157 = .ok (.goto 7, 3) := by decide +kernel
theorem dX7_firstFree_160 : decode cX7_firstFree 160 = .ok (.iload 5, 2) := by decide +kernel
theorem dX7_firstFree_162 : decode cX7_firstFree 162 = .ok (.iconst 1, 1) := by decide +kernel
theorem dX7_firstFree_163 : decode cX7_firstFree 163 = .ok (.iadd, 1) := by decide +kernel
theorem dX7_firstFree_164 : decode cX7_firstFree 164 = .ok (.istore 5, 2) := by decide +kernel
theorem dX7_firstFree_166 : decode cX7_firstFree 166 = .ok (.aload_n 0, 1) := by decide +kernel
theorem dX7_firstFree_167 : decode cX7_firstFree 167 = .ok (.getfield 132, 3) := by decide +kernel
theorem dX7_firstFree_170 : decode cX7_firstFree 170 = .ok (.iload 6, 2) := by decide +kernel
theorem dX7_firstFree_172 : decode cX7_firstFree 172 = .ok (.baload, 1) := by decide +kernel
theorem dX7_firstFree_173 : decode cX7_firstFree 173 = .ok (.ifCond .eq 13, 3) := by decide +kernel
theorem dX7_firstFree_176 : decode cX7_firstFree 176 = .ok (.iload 6, 2) := by decide +kernel
theorem dX7_firstFree_178 : decode cX7_firstFree 178 = .ok (.iconst 1, 1) := by decide +kernel
theorem dX7_firstFree_179 : decode cX7_firstFree 179 = .ok (.iadd, 1) := by decide +kernel
theorem dX7_firstFree_180 : decode cX7_firstFree 180 = .ok (.bipush 48, 2) := by decide +kernel
theorem dX7_firstFree_182 : decode cX7_firstFree 182 = .ok (.isub, 1) := by decide +kernel
theorem dX7_firstFree_183 : decode cX7_firstFree 183 = .ok (.goto 5, 3) := by decide +kernel
theorem dX7_firstFree_186 : decode cX7_firstFree 186 = .ok (.iload 4, 2) := by decide +kernel
theorem dX7_firstFree_188 : decode cX7_firstFree 188 = .ok (.istore 4, 2) := by decide +kernel
theorem dX7_firstFree_190 : decode cX7_firstFree 190 = .ok (.iinc 6 1, 3) := by decide +kernel
theorem dX7_firstFree_193 : decode cX7_firstFree 193 = .ok (.goto (-53), 3) := by decide +kernel
theorem dX7_firstFree_196 : decode cX7_firstFree 196 = .ok (.iload 4, 2) := by decide +kernel
theorem dX7_firstFree_198 : decode cX7_firstFree 198 = .ok (.ireturn, 1) := by decide +kernel
theorem lk_X7_firstFree : LK yX7_firstFree cX7_firstFree 7 (some .int) 3 := ⟨qW_at 1817 (by decide +kernel) rfl, qW_at 78 (by decide +kernel) rfl, by decide, by decide, by decide +kernel⟩
theorem im_X7_firstFree : Cond.instanceMethod yX7_firstFree ∈ qW := qW_at 1815 (by decide +kernel) rfl
theorem se_X7_firstFree : Cond.selects RX7 yX7_firstFree yX7_firstFree ∈ qW := qW_at 1816 (by decide +kernel) rfl
def F_X7_firstFree (this : Nat) (people_ : Int32) (from_ : Int32) (hours_ : Int32) : QX Int32 :=
  (xb (xb (xb (xb (xp (some this)) fun v16 => xb (xb (xb (xb (xb (xb (xp people_) fun v1 => xb (xp (1 : Int32)) fun v2 => xb (xp (31 : Int32)) fun v3 => F_X7_in v1 v2 v3) fun v4 => xp (decide (¬ v4 = 0))) fun v9 => if v9 then (xb (xb (xp from_) fun v5 => xb (xp (-48 : Int32)) fun v6 => xb (xp (1500 : Int32)) fun v7 => F_X7_in v5 v6 v7) fun v8 => xp (decide (¬ v8 = 0))) else xp false) fun v14 => if v14 then (xb (xb (xp hours_) fun v10 => xb (xp (1 : Int32)) fun v11 => xb (xp (48 : Int32)) fun v12 => F_X7_in v10 v11 v12) fun v13 => xp (decide (¬ v13 = 0))) else xp false) fun v15 => xp (b2i v15)) fun v17 => xb (xp (1 : Int32)) fun v18 => xb (xp (1 : Int32)) fun v19 => xo 8 v16 fun q => F_X7_goes q v17 v18 v19) fun v20 => xp (decide (¬ v20 = 0))) fun v21 => xp (!v21)) fun v86 => if v86 then (xp (0 : Int32)) else
  (xb (xp (0 : Int32)) fun k_22 =>
  (xb (xl 2000 (fun (s23 : Int32) => (xb (xp s23) fun v24 => xb (xp (1650 : Int32)) fun v25 => xp (decide (v24 < v25)))) (fun (s23 : Int32) =>
  (xb (xb (xb (xp (some this)) fun v26 => xgr 8 44 v26) fun v27 => xb (xp s23) fun v28 => xb (xp (0 : Int32)) fun v29 => xsaz v27 v28 v29) fun _ =>
  (xp (s23 + 1)))) k_22) fun s30 =>
  (xb (xp (0 : Int32)) fun k_31 =>
  (xb (xl 2000 (fun (s32 : Int32) => (xb (xp s32) fun v33 => xb (xp (40 : Int32)) fun v34 => xp (decide (v33 < v34)))) (fun (s32 : Int32) =>
  (xb (xb (xb (xb (xb (xb (xp people_) fun v37 => xb (xb (xp s32) fun v35 => xb (xp (8 : Int32)) fun v36 => (xdiv v35 v36)) fun v38 => (xp (v37 >>> (v38 &&& 31)))) fun v39 => xb (xp (1 : Int32)) fun v40 => (xp (v39 &&& v40))) fun v41 => xb (xp (1 : Int32)) fun v42 => xp (decide (v41 = v42))) fun v48 => if v48 then (xb (xb (xp s32) fun v43 => xb (xp (8 : Int32)) fun v44 => (xrem v43 v44)) fun v45 => xb (xb (xp (some this)) fun v46 => xgi 8 3 v46) fun v47 => xp (decide (v45 < v47))) else xp false) fun v56 => if v56 then (xb (xb (xp (some this)) fun v53 => xb (xb (xp s32) fun v49 => xb (xp (8 : Int32)) fun v50 => (xdiv v49 v50)) fun v54 => xb (xb (xp s32) fun v51 => xb (xp (8 : Int32)) fun v52 => (xrem v51 v52)) fun v55 => xo 8 v53 fun q => F_X7_laysBusy q v54 v55) fun _ =>
  (xp ())) else (xp ())) fun s57 =>
  (xp (s32 + 1)))) k_31) fun s58 =>
  (xb (xp from_) fun begins_59 =>
  (xb (xp (0 : Int32)) fun run_60 =>
  (xb (xb (xp from_) fun v61 => xb (xp (48 : Int32)) fun v62 => (xp (v61 + v62))) fun k_63 =>
  (xb (xl 2000 (fun (s64 : Int32 × Int32 × Int32) => (xb (xp s64.1) fun v65 => xb (xp hours_) fun v66 => xp (decide (v65 < v66)))) (fun (s64 : Int32 × Int32 × Int32) =>
  (xb (xb (xb (xb (xb (xp (some this)) fun v67 => xgr 8 44 v67) fun v68 => xb (xp s64.2.2) fun v69 => xai 1 v68 v69) fun v70 => xp (decide (¬ v70 = 0))) fun v73 => if v73 then (xp (0 : Int32)) else (xb (xp s64.1) fun v71 => xb (xp (1 : Int32)) fun v72 => (xp (v71 + v72)))) fun run_74 =>
  (xb (xb (xb (xb (xb (xp (some this)) fun v75 => xgr 8 44 v75) fun v76 => xb (xp s64.2.2) fun v77 => xai 1 v76 v77) fun v78 => xp (decide (¬ v78 = 0))) fun v83 => if v83 then (xb (xb (xp s64.2.2) fun v79 => xb (xp (1 : Int32)) fun v80 => (xp (v79 + v80))) fun v81 => xb (xp (48 : Int32)) fun v82 => (xp (v81 - v82))) else (xp s64.2.1)) fun begins_84 =>
  (xp (run_74, begins_84, (s64.2.2 + 1)))))) (run_60, begins_59, k_63)) fun s85 =>
  (xp s85.2.1))))))))))
set_option maxRecDepth 100000 in
set_option maxHeartbeats 4000000 in
theorem M_X7_firstFree (this : Nat) (people_ : Int32) (from_ : Int32) (hours_ : Int32) : MM yX7_firstFree cX7_firstFree 7 (some .int) 5 125 0 0 encI [.ref this, .int people_, .int from_, .int hours_] (F_X7_firstFree this people_ from_ hours_) := by
  refine MM_of (env0 := [(0, va_rf (some this)), (1, .int people_), (2, .int from_), (3, .int hours_)]) (by decide) (by exact Nat.le_of_ble_eq_true rfl) (by rfl) (fun k mm res X C hR hN hr hname h => ?_)
  have X : CX k cX7_firstFree RX7 := X
  have hT : TH k (fun e m' => res = (.error e, m')) := TH_of C
  have htr := C.2.2.2.1
  unfold F_X7_firstFree at h
  exact SB_go (T := fun e m' => res = (.error e, m')) (RET := fun v m' => res = (.ok v, m')) (SB_if (CE_not (CE_1 (XE_4 (pB := pI) wR wI wI (L_aload_n (r := (some this)) 0 X dX7_firstFree_0 rfl rfl) (XE_b2i (CE_and (CE_and (CE_1 (XE_3 (pB := pI) wI wI (L_iload_n (x := people_) 1 X dX7_firstFree_1 rfl rfl) (L_iconst (v := 1) X dX7_firstFree_2 (by decide)) (L_bipush (v := (31)) X dX7_firstFree_3 (by decide)) (fun v0 v1 v2 st mm a b hd hc hs h => g_callS (st := st) X hT htr (M_X7_in v0 v1 v2) lk_X7_in st_X7_in ml_X7_139 rfl (by rw [hR]; exact ⟨Nat.le_of_ble_eq_true rfl, Nat.le_of_ble_eq_true rfl⟩) (Nat.le_trans hd (by decide)) ⟨hc, hs⟩ dX7_firstFree_5 h)) (Z_ne_F X dX7_firstFree_8 (by decide))) (CE_1 (XE_3 (pB := pI) wI wI (L_iload_n (x := from_) 2 X dX7_firstFree_11 rfl rfl) (L_bipush (v := (-48)) X dX7_firstFree_12 (by decide)) (L_sipush (v := (1500)) X dX7_firstFree_14 (by decide)) (fun v0 v1 v2 st mm a b hd hc hs h => g_callS (st := st) X hT htr (M_X7_in v0 v1 v2) lk_X7_in st_X7_in ml_X7_139 rfl (by rw [hR]; exact ⟨Nat.le_of_ble_eq_true rfl, Nat.le_of_ble_eq_true rfl⟩) (Nat.le_trans hd (by decide)) ⟨hc, hs⟩ dX7_firstFree_17 h)) (Z_ne_F X dX7_firstFree_20 (by decide)))) (CE_1 (XE_3 (pB := pI) wI wI (L_iload_n (x := hours_) 3 X dX7_firstFree_23 rfl rfl) (L_iconst (v := 1) X dX7_firstFree_24 (by decide)) (L_bipush (v := (48)) X dX7_firstFree_25 (by decide)) (fun v0 v1 v2 st mm a b hd hc hs h => g_callS (st := st) X hT htr (M_X7_in v0 v1 v2) lk_X7_in st_X7_in ml_X7_139 rfl (by rw [hR]; exact ⟨Nat.le_of_ble_eq_true rfl, Nat.le_of_ble_eq_true rfl⟩) (Nat.le_trans hd (by decide)) ⟨hc, hs⟩ dX7_firstFree_27 h)) (Z_ne_F X dX7_firstFree_30 (by decide)))) (S_b1 X dX7_firstFree_33 dX7_firstFree_34 (by decide)) (S_b0 X dX7_firstFree_37)) (L_iconst (v := 1) X dX7_firstFree_38 (by decide)) (L_iconst (v := 1) X dX7_firstFree_39 (by decide)) (fun v0 v1 v2 v3 st mm a b hd hc hs h => g_callVo (st := st) (cI := 8) X hT htr rfl (fun q => M_X7_goes q v1 v2 v3) lk_X7_goes im_X7_goes se_X7_goes ml_X7_153 rfl (by rw [hR]; exact ⟨Nat.le_of_ble_eq_true rfl, Nat.le_of_ble_eq_true rfl⟩) (Nat.le_trans hd (by decide)) ⟨hc, hs⟩ dX7_firstFree_40 h)) (Z_ne_T X dX7_firstFree_43 (by decide))))
  (SB_retI X C hr dX7_firstFree_47 (L_iconst (v := 0) X dX7_firstFree_46 (by decide)))
  (SB_let (L_iconst (v := 0) X dX7_firstFree_48 (by decide)) (S_istore (ev := fun k_22 => [(4, .int k_22), (0, va_rf (some this)), (1, .int people_), (2, .int from_), (3, .int hours_)]) X dX7_firstFree_49 (by rw [hN]; decide) (fun _ => rfl)) fun k_22 =>
  (SB_seq (ST_loop (σ := Int32) (upd := (fun (s : Int32) => [(4, .int s), (0, va_rf (some this)), (1, .int people_), (2, .int from_), (3, .int hours_)])) (s0 := k_22) (n := 2000) (fun mm a b h => GG_sub [0, 1, 2, 3, 4] rfl h)
  (fun s23 => (CE_2 wI (L_iload (x := s23) 0 X dX7_firstFree_51 rfl) (L_sipush (v := (1650)) X dX7_firstFree_53 (by decide)) (C_lt_F X dX7_firstFree_56 (by decide))))
  (fun s23 => (ST_post (ST_do (XE_3 wR wI (XE_1 (L_aload_n (r := (some this)) 1 X dX7_firstFree_59 rfl rfl) (O_gr (c := 8) (j := 44) X rfl inW7 (by decide) fl_X7_132 rfl dX7_firstFree_60)) (L_iload (x := s23) 0 X dX7_firstFree_63 rfl) (L_iconst (v := 0) X dX7_firstFree_65 (by decide)) (O_saz X dX7_firstFree_66))
  (ST_pre (env' := [(4, .int (s23 + 1)), (0, va_rf (some this)), (1, .int people_), (2, .int from_), (3, .int hours_)]) (S_iinc 0 X dX7_firstFree_67 rfl rfl (by rw [hN]; decide) rfl)
  (ST_done (upd := (fun (s : Int32) => [(4, .int s), (0, va_rf (some this)), (1, .int people_), (2, .int from_), (3, .int hours_)])) (s := (s23 + 1)) [0, 1, 2, 3, 4] rfl))) fun _ mm a b h => S_goto X dX7_firstFree_70 (by decide) [] mm a b h))) fun s30 =>
  (SB_let (L_iconst (v := 0) X dX7_firstFree_73 (by decide)) (S_istore (ev := fun k_31 => [(4, .int k_31), (0, va_rf (some this)), (1, .int people_), (2, .int from_), (3, .int hours_)]) X dX7_firstFree_74 (by rw [hN]; decide) (fun _ => rfl)) fun k_31 =>
  (SB_seq (ST_loop (σ := Int32) (upd := (fun (s : Int32) => [(4, .int s), (0, va_rf (some this)), (1, .int people_), (2, .int from_), (3, .int hours_)])) (s0 := k_31) (n := 2000) (fun mm a b h => GG_sub [0, 1, 2, 3, 4] rfl h)
  (fun s32 => (CE_2 wI (L_iload (x := s32) 0 X dX7_firstFree_76 rfl) (L_bipush (v := (40)) X dX7_firstFree_78 (by decide)) (C_lt_F X dX7_firstFree_80 (by decide))))
  (fun s32 => (ST_post (ST_seq (ST_if (CE_and (CE_2 wI (XE_2 wI (XE_2 wI (L_iload_n (x := people_) 2 X dX7_firstFree_83 rfl rfl) (XE_2 wI (L_iload (x := s32) 0 X dX7_firstFree_84 rfl) (L_bipush (v := (8)) X dX7_firstFree_86 (by decide)) (O_idiv X dX7_firstFree_88)) (O_ishr X dX7_firstFree_89)) (L_iconst (v := 1) X dX7_firstFree_90 (by decide)) (O_iand X dX7_firstFree_91)) (L_iconst (v := 1) X dX7_firstFree_92 (by decide)) (C_eq_F X dX7_firstFree_93 (by decide))) (CE_2 wI (XE_2 wI (L_iload (x := s32) 0 X dX7_firstFree_96 rfl) (L_bipush (v := (8)) X dX7_firstFree_98 (by decide)) (O_irem X dX7_firstFree_100)) (XE_1 (L_aload_n (r := (some this)) 1 X dX7_firstFree_101 rfl rfl) (O_gi (c := 8) (j := 3) X rfl inW7 (by decide) fl_X7_143 rfl dX7_firstFree_102)) (C_lt_F X dX7_firstFree_105 (by decide))))
  (ST_do (XE_3 (pB := pU) wR wI (L_aload_n (r := (some this)) 1 X dX7_firstFree_108 rfl rfl) (XE_2 wI (L_iload (x := s32) 0 X dX7_firstFree_109 rfl) (L_bipush (v := (8)) X dX7_firstFree_111 (by decide)) (O_idiv X dX7_firstFree_113)) (XE_2 wI (L_iload (x := s32) 0 X dX7_firstFree_114 rfl) (L_bipush (v := (8)) X dX7_firstFree_116 (by decide)) (O_irem X dX7_firstFree_118)) (fun v0 v1 v2 st mm a b hd hc hs h => g_callVo (st := st) (cI := 8) X hT htr rfl (fun q => M_X7_laysBusy q v1 v2) lk_X7_laysBusy im_X7_laysBusy se_X7_laysBusy ml_X7_355 rfl (by rw [hR]; exact ⟨Nat.le_of_ble_eq_true rfl, Nat.le_of_ble_eq_true rfl⟩) (Nat.le_trans hd (by decide)) ⟨hc, hs⟩ dX7_firstFree_119 h))
  (ST_done (upd := (fun (s : Unit) => [(4, .int s32), (0, va_rf (some this)), (1, .int people_), (2, .int from_), (3, .int hours_)])) (s := ()) [0, 1, 2, 3, 4] rfl))
  (ST_done (upd := (fun (s : Unit) => [(4, .int s32), (0, va_rf (some this)), (1, .int people_), (2, .int from_), (3, .int hours_)])) (s := ()) [0, 1, 2, 3, 4] rfl)) fun s57 =>
  (ST_pre (env' := [(4, .int (s32 + 1)), (0, va_rf (some this)), (1, .int people_), (2, .int from_), (3, .int hours_)]) (S_iinc 0 X dX7_firstFree_122 rfl rfl (by rw [hN]; decide) rfl)
  (ST_done (upd := (fun (s : Int32) => [(4, .int s), (0, va_rf (some this)), (1, .int people_), (2, .int from_), (3, .int hours_)])) (s := (s32 + 1)) [0, 1, 2, 3, 4] rfl))) fun _ mm a b h => S_goto X dX7_firstFree_125 (by decide) [] mm a b h))) fun s58 =>
  (SB_let (L_iload_n (x := from_) 3 X dX7_firstFree_128 rfl rfl) (S_istore (ev := fun begins_59 => [(4, .int begins_59), (0, va_rf (some this)), (1, .int people_), (2, .int from_), (3, .int hours_)]) X dX7_firstFree_129 (by rw [hN]; decide) (fun _ => rfl)) fun begins_59 =>
  (SB_let (L_iconst (v := 0) X dX7_firstFree_131 (by decide)) (S_istore (ev := fun run_60 => [(5, .int run_60), (4, .int begins_59), (0, va_rf (some this)), (1, .int people_), (2, .int from_), (3, .int hours_)]) X dX7_firstFree_132 (by rw [hN]; decide) (fun _ => rfl)) fun run_60 =>
  (SB_let (XE_2 wI (L_iload_n (x := from_) 4 X dX7_firstFree_134 rfl rfl) (L_bipush (v := (48)) X dX7_firstFree_135 (by decide)) (O_iadd X dX7_firstFree_137)) (S_istore (ev := fun k_63 => [(6, .int k_63), (5, .int run_60), (4, .int begins_59), (0, va_rf (some this)), (1, .int people_), (2, .int from_), (3, .int hours_)]) X dX7_firstFree_138 (by rw [hN]; decide) (fun _ => rfl)) fun k_63 =>
  (SB_seq (ST_loop (σ := Int32 × Int32 × Int32) (upd := (fun (s : Int32 × Int32 × Int32) => [(6, .int s.2.2), (5, .int s.1), (4, .int s.2.1), (0, va_rf (some this)), (1, .int people_), (2, .int from_), (3, .int hours_)])) (s0 := (run_60, begins_59, k_63)) (n := 2000) (fun mm a b h => GG_sub [0, 1, 2, 3, 4, 5, 6] rfl h)
  (fun s64 => (CE_2 wI (L_iload (x := s64.1) 1 X dX7_firstFree_140 rfl) (L_iload_n (x := hours_) 6 X dX7_firstFree_142 rfl rfl) (C_lt_F X dX7_firstFree_143 (by decide))))
  (fun s64 => (ST_post (ST_let (XE_tern (CE_1 (XE_2 wR (XE_1 (L_aload_n (r := (some this)) 3 X dX7_firstFree_146 rfl rfl) (O_gr (c := 8) (j := 44) X rfl inW7 (by decide) fl_X7_132 rfl dX7_firstFree_147)) (L_iload (x := s64.2.2) 0 X dX7_firstFree_150 rfl) (O_az X dX7_firstFree_152)) (Z_ne_F X dX7_firstFree_153 (by decide))) (L_iconst (v := 0) X dX7_firstFree_156 (by decide)) (S_goto X dX7_firstFree_157 (by decide)) (XE_2 wI (L_iload (x := s64.1) 1 X dX7_firstFree_160 rfl) (L_iconst (v := 1) X dX7_firstFree_162 (by decide)) (O_iadd X dX7_firstFree_163))) (S_istore (ev := fun run_74 => [(5, .int run_74), (6, .int s64.2.2), (4, .int s64.2.1), (0, va_rf (some this)), (1, .int people_), (2, .int from_), (3, .int hours_)]) X dX7_firstFree_164 (by rw [hN]; decide) (fun _ => rfl)) fun run_74 =>
  (ST_let (XE_tern (CE_1 (XE_2 wR (XE_1 (L_aload_n (r := (some this)) 3 X dX7_firstFree_166 rfl rfl) (O_gr (c := 8) (j := 44) X rfl inW7 (by decide) fl_X7_132 rfl dX7_firstFree_167)) (L_iload (x := s64.2.2) 1 X dX7_firstFree_170 rfl) (O_az X dX7_firstFree_172)) (Z_ne_F X dX7_firstFree_173 (by decide))) (XE_2 wI (XE_2 wI (L_iload (x := s64.2.2) 1 X dX7_firstFree_176 rfl) (L_iconst (v := 1) X dX7_firstFree_178 (by decide)) (O_iadd X dX7_firstFree_179)) (L_bipush (v := (48)) X dX7_firstFree_180 (by decide)) (O_isub X dX7_firstFree_182)) (S_goto X dX7_firstFree_183 (by decide)) (L_iload (x := s64.2.1) 2 X dX7_firstFree_186 rfl)) (S_istore (ev := fun begins_84 => [(4, .int begins_84), (5, .int run_74), (6, .int s64.2.2), (0, va_rf (some this)), (1, .int people_), (2, .int from_), (3, .int hours_)]) X dX7_firstFree_188 (by rw [hN]; decide) (fun _ => rfl)) fun begins_84 =>
  (ST_pre (env' := [(6, .int (s64.2.2 + 1)), (4, .int begins_84), (5, .int run_74), (0, va_rf (some this)), (1, .int people_), (2, .int from_), (3, .int hours_)]) (S_iinc 2 X dX7_firstFree_190 rfl rfl (by rw [hN]; decide) rfl)
  (ST_done (upd := (fun (s : Int32 × Int32 × Int32) => [(6, .int s.2.2), (5, .int s.1), (4, .int s.2.1), (0, va_rf (some this)), (1, .int people_), (2, .int from_), (3, .int hours_)])) (s := (run_74, begins_84, (s64.2.2 + 1))) [0, 2, 1, 3, 4, 5, 6] rfl)))) fun _ mm a b h => S_goto X dX7_firstFree_193 (by decide) [] mm a b h))) fun s85 =>
  (SB_retI X C hr dX7_firstFree_198 (L_iload (x := s85.2.1) 2 X dX7_firstFree_196 rfl))))))))))) h (by rw [hR]; decide) (by rw [hR]; decide)
theorem dX7_firstFreeByHours_0 : decode cX7_firstFreeByHours 0 = .ok (.aload_n 0, 1) := by decide +kernel
theorem dX7_firstFreeByHours_1 : decode cX7_firstFreeByHours 1 = .ok (.iload_n 1, 1) := by decide +kernel
theorem dX7_firstFreeByHours_2 : decode cX7_firstFreeByHours 2 = .ok (.iload_n 2, 1) := by decide +kernel
theorem dX7_firstFreeByHours_3 : decode cX7_firstFreeByHours 3 = .ok (.iload_n 3, 1) := by decide +kernel
theorem dX7_firstFreeByHours_4 : decode cX7_firstFreeByHours 4 = .ok (.invokevirtual 358, 3) := by decide +kernel
theorem dX7_firstFreeByHours_7 : decode cX7_firstFreeByHours 7 = .ok (.ireturn, 1) := by decide +kernel
theorem lk_X7_firstFreeByHours : LK yX7_firstFreeByHours cX7_firstFreeByHours 4 (some .int) 3 := ⟨qW_at 1825 (by decide +kernel) rfl, qW_at 78 (by decide +kernel) rfl, by decide, by decide, by decide +kernel⟩
theorem im_X7_firstFreeByHours : Cond.instanceMethod yX7_firstFreeByHours ∈ qW := qW_at 1823 (by decide +kernel) rfl
theorem se_X7_firstFreeByHours : Cond.selects RX7 yX7_firstFreeByHours yX7_firstFreeByHours ∈ qW := qW_at 1824 (by decide +kernel) rfl
def F_X7_firstFreeByHours (this : Nat) (people_ : Int32) (from_ : Int32) (hours_ : Int32) : QX Int32 :=
  (xb (xp (some this)) fun v1 => xb (xp people_) fun v2 => xb (xp from_) fun v3 => xb (xp hours_) fun v4 => xo 8 v1 fun q => F_X7_firstFree q v2 v3 v4)
set_option maxRecDepth 100000 in
set_option maxHeartbeats 4000000 in
theorem M_X7_firstFreeByHours (this : Nat) (people_ : Int32) (from_ : Int32) (hours_ : Int32) : MM yX7_firstFreeByHours cX7_firstFreeByHours 4 (some .int) 6 151 0 0 encI [.ref this, .int people_, .int from_, .int hours_] (F_X7_firstFreeByHours this people_ from_ hours_) := by
  refine MM_of (env0 := [(0, va_rf (some this)), (1, .int people_), (2, .int from_), (3, .int hours_)]) (by decide) (by exact Nat.le_of_ble_eq_true rfl) (by rfl) (fun k mm res X C hR hN hr hname h => ?_)
  have X : CX k cX7_firstFreeByHours RX7 := X
  have hT : TH k (fun e m' => res = (.error e, m')) := TH_of C
  have htr := C.2.2.2.1
  unfold F_X7_firstFreeByHours at h
  exact SB_go (T := fun e m' => res = (.error e, m')) (RET := fun v m' => res = (.ok v, m')) (SB_retI X C hr dX7_firstFreeByHours_7 (XE_4 (pB := pI) wR wI wI (L_aload_n (r := (some this)) 0 X dX7_firstFreeByHours_0 rfl rfl) (L_iload_n (x := people_) 1 X dX7_firstFreeByHours_1 rfl rfl) (L_iload_n (x := from_) 2 X dX7_firstFreeByHours_2 rfl rfl) (L_iload_n (x := hours_) 3 X dX7_firstFreeByHours_3 rfl rfl) (fun v0 v1 v2 v3 st mm a b hd hc hs h => g_callVo (st := st) (cI := 8) X hT htr rfl (fun q => M_X7_firstFree q v1 v2 v3) lk_X7_firstFree im_X7_firstFree se_X7_firstFree ml_X7_358 rfl (by rw [hR]; exact ⟨Nat.le_of_ble_eq_true rfl, Nat.le_of_ble_eq_true rfl⟩) (Nat.le_trans hd (by decide)) ⟨hc, hs⟩ dX7_firstFreeByHours_4 h))) h (by rw [hR]; decide) (by rw [hR]; decide)
theorem dX7_mark_0 : decode cX7_mark 0 = .ok (.aload_n 0, 1) := by decide +kernel
theorem dX7_mark_1 : decode cX7_mark 1 = .ok (.iload_n 1, 1) := by decide +kernel
theorem dX7_mark_2 : decode cX7_mark 2 = .ok (.invokestatic 202, 3) := by decide +kernel
theorem dX7_mark_5 : decode cX7_mark 5 = .ok (.iconst 1, 1) := by decide +kernel
theorem dX7_mark_6 : decode cX7_mark 6 = .ok (.iconst 1, 1) := by decide +kernel
theorem dX7_mark_7 : decode cX7_mark 7 = .ok (.invokevirtual 153, 3) := by decide +kernel
theorem dX7_mark_10 : decode cX7_mark 10 = .ok (.ifCond .eq 12, 3) := by decide +kernel
theorem dX7_mark_13 : decode cX7_mark 13 = .ok (.aload_n 0, 1) := by decide +kernel
theorem dX7_mark_14 : decode cX7_mark 14 = .ok (.getfield 87, 3) := by decide +kernel
theorem dX7_mark_17 : decode cX7_mark 17 = .ok (.iload_n 1, 1) := by decide +kernel
theorem dX7_mark_18 : decode cX7_mark 18 = .ok (.iaload, 1) := by decide +kernel
theorem dX7_mark_19 : decode cX7_mark 19 = .ok (.goto 4, 3) := by decide +kernel
theorem dX7_mark_22 : decode cX7_mark 22 = .ok (.iconst 0, 1) := by decide +kernel
theorem dX7_mark_23 : decode cX7_mark 23 = .ok (.ireturn, 1) := by decide +kernel
theorem lk_X7_mark : LK yX7_mark cX7_mark 2 (some .int) 1 := ⟨qW_at 1830 (by decide +kernel) rfl, qW_at 78 (by decide +kernel) rfl, by decide, by decide, by decide +kernel⟩
theorem im_X7_mark : Cond.instanceMethod yX7_mark ∈ qW := qW_at 1828 (by decide +kernel) rfl
theorem se_X7_mark : Cond.selects RX7 yX7_mark yX7_mark ∈ qW := qW_at 1829 (by decide +kernel) rfl
def F_X7_mark (this : Nat) (person_ : Int32) : QX Int32 :=
  (xb (xb (xb (xp (some this)) fun v2 => xb (xb (xp person_) fun v1 => F_X7_isPerson v1) fun v3 => xb (xp (1 : Int32)) fun v4 => xb (xp (1 : Int32)) fun v5 => xo 8 v2 fun q => F_X7_goes q v3 v4 v5) fun v6 => xp (decide (¬ v6 = 0))) fun v10 => if v10 then (xb (xb (xp (some this)) fun v7 => xgr 8 27 v7) fun v8 => xb (xp person_) fun v9 => xai 0 v8 v9) else (xp (0 : Int32)))
set_option maxRecDepth 100000 in
set_option maxHeartbeats 4000000 in
theorem M_X7_mark (this : Nat) (person_ : Int32) : MM yX7_mark cX7_mark 2 (some .int) 2 42 0 0 encI [.ref this, .int person_] (F_X7_mark this person_) := by
  refine MM_of (env0 := [(0, va_rf (some this)), (1, .int person_)]) (by decide) (by exact Nat.le_of_ble_eq_true rfl) (by rfl) (fun k mm res X C hR hN hr hname h => ?_)
  have X : CX k cX7_mark RX7 := X
  have hT : TH k (fun e m' => res = (.error e, m')) := TH_of C
  have htr := C.2.2.2.1
  unfold F_X7_mark at h
  exact SB_go (T := fun e m' => res = (.error e, m')) (RET := fun v m' => res = (.ok v, m')) (SB_retI X C hr dX7_mark_23 (XE_tern (CE_1 (XE_4 (pB := pI) wR wI wI (L_aload_n (r := (some this)) 0 X dX7_mark_0 rfl rfl) (XE_1 (pB := pI)  (L_iload_n (x := person_) 1 X dX7_mark_1 rfl rfl) (fun v0 st mm a b hd hc hs h => g_callS (st := st) X hT htr (M_X7_isPerson v0) lk_X7_isPerson st_X7_isPerson ml_X7_202 rfl (by rw [hR]; exact ⟨Nat.le_of_ble_eq_true rfl, Nat.le_of_ble_eq_true rfl⟩) (Nat.le_trans hd (by decide)) ⟨hc, hs⟩ dX7_mark_2 h)) (L_iconst (v := 1) X dX7_mark_5 (by decide)) (L_iconst (v := 1) X dX7_mark_6 (by decide)) (fun v0 v1 v2 v3 st mm a b hd hc hs h => g_callVo (st := st) (cI := 8) X hT htr rfl (fun q => M_X7_goes q v1 v2 v3) lk_X7_goes im_X7_goes se_X7_goes ml_X7_153 rfl (by rw [hR]; exact ⟨Nat.le_of_ble_eq_true rfl, Nat.le_of_ble_eq_true rfl⟩) (Nat.le_trans hd (by decide)) ⟨hc, hs⟩ dX7_mark_7 h)) (Z_ne_F X dX7_mark_10 (by decide))) (XE_2 wR (XE_1 (L_aload_n (r := (some this)) 0 X dX7_mark_13 rfl rfl) (O_gr (c := 8) (j := 27) X rfl inW7 (by decide) fl_X7_87 rfl dX7_mark_14)) (L_iload_n (x := person_) 1 X dX7_mark_17 rfl rfl) (O_ai X dX7_mark_18)) (S_goto X dX7_mark_19 (by decide)) (L_iconst (v := 0) X dX7_mark_22 (by decide)))) h (by rw [hR]; decide) (by rw [hR]; decide)
theorem dX7_changed_0 : decode cX7_changed 0 = .ok (.iconst 0, 1) := by decide +kernel
theorem dX7_changed_1 : decode cX7_changed 1 = .ok (.istore_n 3, 1) := by decide +kernel
theorem dX7_changed_2 : decode cX7_changed 2 = .ok (.iconst 0, 1) := by decide +kernel
theorem dX7_changed_3 : decode cX7_changed 3 = .ok (.istore 4, 2) := by decide +kernel
theorem dX7_changed_5 : decode cX7_changed 5 = .ok (.iload 4, 2) := by decide +kernel
theorem dX7_changed_7 : decode cX7_changed 7 = .ok (.aload_n 0, 1) := by decide +kernel
theorem dX7_changed_8 : decode cX7_changed 8 = .ok (.getfield 143, 3) := by decide +kernel
theorem dX7_changed_11 : decode cX7_changed 11 = .ok (.if_icmp .ge 32, 3) := by decide +kernel
theorem dX7_changed_14 : decode cX7_changed 14 = .ok (.iload_n 3, 1) := by decide +kernel
theorem dX7_changed_15 : decode cX7_changed 15 = .ok (.aload_n 0, 1) := by decide +kernel
theorem dX7_changed_16 : decode cX7_changed 16 = .ok (.getfield 84, 3) := by decide +kernel
theorem dX7_changed_19 : decode cX7_changed 19 = .ok (.iload_n 1, 1) := by decide +kernel
theorem dX7_changed_20 : decode cX7_changed 20 = .ok (.iload 4, 2) := by decide +kernel
theorem dX7_changed_22 : decode cX7_changed 22 = .ok (.invokestatic 171, 3) := by decide +kernel
theorem dX7_changed_25 : decode cX7_changed 25 = .ok (.iaload, 1) := by decide +kernel
theorem dX7_changed_26 : decode cX7_changed 26 = .ok (.iload_n 2, 1) := by decide +kernel
theorem dX7_changed_27 : decode cX7_changed 27 = .ok (.if_icmp .le 7, 3) := by decide +kernel
theorem dX7_changed_30 : decode cX7_changed 30 = .ok (.iconst 1, 1) := by decide +kernel
theorem dX7_changed_31 : decode cX7_changed 31 = .ok (.goto 4, 3) := by decide +kernel
theorem dX7_changed_34 : decode cX7_changed 34 = .ok (.iconst 0, 1) := by decide +kernel
theorem dX7_changed_35 : decode cX7_changed 35 = .ok (.iadd, 1) := by decide +kernel
theorem dX7_changed_36 : decode cX7_changed 36 = .ok (.istore_n 3, 1) := by decide +kernel
theorem dX7_changed_37 : decode cX7_changed 37 = .ok (.iinc 4 1, 3) := by decide +kernel
theorem dX7_changed_40 : decode cX7_changed 40 = .ok (.goto (-35), 3) := by decide +kernel
theorem dX7_changed_43 : decode cX7_changed 43 = .ok (.iload_n 3, 1) := by decide +kernel
theorem dX7_changed_44 : decode cX7_changed 44 = .ok (.ireturn, 1) := by decide +kernel
theorem lk_X7_changed : LK yX7_changed cX7_changed 5 (some .int) 2 := ⟨qW_at 1842 (by decide +kernel) rfl, qW_at 78 (by decide +kernel) rfl, by decide, by decide, by decide +kernel⟩
theorem im_X7_changed : Cond.instanceMethod yX7_changed ∈ qW := qW_at 1841 (by decide +kernel) rfl
theorem se_X7_changed : Cond.selects RX7 yX7_changed yX7_changed ∈ qW := qW_at 73 (by decide +kernel) rfl
def F_X7_changed (this : Nat) (person_ : Int32) (above_ : Int32) : QX Int32 :=
  (xb (xp (0 : Int32)) fun sum_1 =>
  (xb (xp (0 : Int32)) fun k_2 =>
  (xb (xl 2000 (fun (s3 : Int32 × Int32) => (xb (xp s3.2) fun v4 => xb (xb (xp (some this)) fun v5 => xgi 8 3 v5) fun v6 => xp (decide (v4 < v6)))) (fun (s3 : Int32 × Int32) =>
  (xb (xb (xp s3.1) fun v15 => xb (xb (xb (xb (xb (xp (some this)) fun v7 => xgr 8 26 v7) fun v10 => xb (xb (xp person_) fun v8 => xb (xp s3.2) fun v9 => F_X7_at v8 v9) fun v11 => xai 0 v10 v11) fun v12 => xb (xp above_) fun v13 => xp (decide (v13 < v12))) fun v14 => if v14 then (xp (1 : Int32)) else (xp (0 : Int32))) fun v16 => (xp (v15 + v16))) fun sum_17 =>
  (xp (sum_17, (s3.2 + 1))))) (sum_1, k_2)) fun s18 =>
  (xp s18.1))))
set_option maxRecDepth 100000 in
set_option maxHeartbeats 4000000 in
theorem M_X7_changed (this : Nat) (person_ : Int32) (above_ : Int32) : MM yX7_changed cX7_changed 5 (some .int) 1 21 0 0 encI [.ref this, .int person_, .int above_] (F_X7_changed this person_ above_) := by
  refine MM_of (env0 := [(0, va_rf (some this)), (1, .int person_), (2, .int above_)]) (by decide) (by exact Nat.le_of_ble_eq_true rfl) (by rfl) (fun k mm res X C hR hN hr hname h => ?_)
  have X : CX k cX7_changed RX7 := X
  have hT : TH k (fun e m' => res = (.error e, m')) := TH_of C
  have htr := C.2.2.2.1
  unfold F_X7_changed at h
  exact SB_go (T := fun e m' => res = (.error e, m')) (RET := fun v m' => res = (.ok v, m')) (SB_let (L_iconst (v := 0) X dX7_changed_0 (by decide)) (S_istore_n (ev := fun sum_1 => [(3, .int sum_1), (0, va_rf (some this)), (1, .int person_), (2, .int above_)]) X dX7_changed_1 rfl (by rw [hN]; decide) (fun _ => rfl)) fun sum_1 =>
  (SB_let (L_iconst (v := 0) X dX7_changed_2 (by decide)) (S_istore (ev := fun k_2 => [(4, .int k_2), (3, .int sum_1), (0, va_rf (some this)), (1, .int person_), (2, .int above_)]) X dX7_changed_3 (by rw [hN]; decide) (fun _ => rfl)) fun k_2 =>
  (SB_seq (ST_loop (σ := Int32 × Int32) (upd := (fun (s : Int32 × Int32) => [(4, .int s.2), (3, .int s.1), (0, va_rf (some this)), (1, .int person_), (2, .int above_)])) (s0 := (sum_1, k_2)) (n := 2000) (fun mm a b h => GG_sub [0, 1, 2, 3, 4] rfl h)
  (fun s3 => (CE_2 wI (L_iload (x := s3.2) 0 X dX7_changed_5 rfl) (XE_1 (L_aload_n (r := (some this)) 2 X dX7_changed_7 rfl rfl) (O_gi (c := 8) (j := 3) X rfl inW7 (by decide) fl_X7_143 rfl dX7_changed_8)) (C_lt_F X dX7_changed_11 (by decide))))
  (fun s3 => (ST_post (ST_let (XE_2 wI (L_iload_n (x := s3.1) 1 X dX7_changed_14 rfl rfl) (XE_tern (CE_2 wI (XE_2 wR (XE_1 (L_aload_n (r := (some this)) 2 X dX7_changed_15 rfl rfl) (O_gr (c := 8) (j := 26) X rfl inW7 (by decide) fl_X7_84 rfl dX7_changed_16)) (XE_2 (pB := pI) wI (L_iload_n (x := person_) 3 X dX7_changed_19 rfl rfl) (L_iload (x := s3.2) 0 X dX7_changed_20 rfl) (fun v0 v1 st mm a b hd hc hs h => g_callS (st := st) X hT htr (M_X7_at v0 v1) lk_X7_at st_X7_at ml_X7_171 rfl (by rw [hR]; exact ⟨Nat.le_of_ble_eq_true rfl, Nat.le_of_ble_eq_true rfl⟩) (Nat.le_trans hd (by decide)) ⟨hc, hs⟩ dX7_changed_22 h)) (O_ai X dX7_changed_25)) (L_iload_n (x := above_) 4 X dX7_changed_26 rfl rfl) (C_gt_F X dX7_changed_27 (by decide))) (L_iconst (v := 1) X dX7_changed_30 (by decide)) (S_goto X dX7_changed_31 (by decide)) (L_iconst (v := 0) X dX7_changed_34 (by decide))) (O_iadd X dX7_changed_35)) (S_istore_n (ev := fun sum_17 => [(3, .int sum_17), (4, .int s3.2), (0, va_rf (some this)), (1, .int person_), (2, .int above_)]) X dX7_changed_36 rfl (by rw [hN]; decide) (fun _ => rfl)) fun sum_17 =>
  (ST_pre (env' := [(4, .int (s3.2 + 1)), (3, .int sum_17), (0, va_rf (some this)), (1, .int person_), (2, .int above_)]) (S_iinc 1 X dX7_changed_37 rfl rfl (by rw [hN]; decide) rfl)
  (ST_done (upd := (fun (s : Int32 × Int32) => [(4, .int s.2), (3, .int s.1), (0, va_rf (some this)), (1, .int person_), (2, .int above_)])) (s := (sum_17, (s3.2 + 1))) [0, 1, 2, 3, 4] rfl))) fun _ mm a b h => S_goto X dX7_changed_40 (by decide) [] mm a b h))) fun s18 =>
  (SB_retI X C hr dX7_changed_44 (L_iload_n (x := s18.1) 1 X dX7_changed_43 rfl rfl))))) h (by rw [hR]; decide) (by rw [hR]; decide)
theorem dX7_asksMark_0 : decode cX7_asksMark 0 = .ok (.iload_n 1, 1) := by decide +kernel
theorem dX7_asksMark_1 : decode cX7_asksMark 1 = .ok (.invokestatic 202, 3) := by decide +kernel
theorem dX7_asksMark_4 : decode cX7_asksMark 4 = .ok (.istore_n 3, 1) := by decide +kernel
theorem dX7_asksMark_5 : decode cX7_asksMark 5 = .ok (.iload_n 3, 1) := by decide +kernel
theorem dX7_asksMark_6 : decode cX7_asksMark 6 = .ok (.ifCond .eq 21, 3) := by decide +kernel
theorem dX7_asksMark_9 : decode cX7_asksMark 9 = .ok (.iload_n 2, 1) := by decide +kernel
theorem dX7_asksMark_10 : decode cX7_asksMark 10 = .ok (.iconst 0, 1) := by decide +kernel
theorem dX7_asksMark_11 : decode cX7_asksMark 11 = .ok (.aload_n 0, 1) := by decide +kernel
theorem dX7_asksMark_12 : decode cX7_asksMark 12 = .ok (.getfield 87, 3) := by decide +kernel
theorem dX7_asksMark_15 : decode cX7_asksMark 15 = .ok (.iload_n 1, 1) := by decide +kernel
theorem dX7_asksMark_16 : decode cX7_asksMark 16 = .ok (.iaload, 1) := by decide +kernel
theorem dX7_asksMark_17 : decode cX7_asksMark 17 = .ok (.invokestatic 139, 3) := by decide +kernel
theorem dX7_asksMark_20 : decode cX7_asksMark 20 = .ok (.ifCond .eq 7, 3) := by decide +kernel
theorem dX7_asksMark_23 : decode cX7_asksMark 23 = .ok (.iconst 1, 1) := by decide +kernel
theorem dX7_asksMark_24 : decode cX7_asksMark 24 = .ok (.goto 4, 3) := by decide +kernel
theorem dX7_asksMark_27 : decode cX7_asksMark 27 = .ok (.iconst 0, 1) := by decide +kernel
theorem dX7_asksMark_28 : decode cX7_asksMark 28 = .ok (.istore 4, 2) := by decide +kernel
theorem dX7_asksMark_30 : decode cX7_asksMark 30 = .ok (.aload_n 0, 1) := by decide +kernel
theorem dX7_asksMark_31 : decode cX7_asksMark 31 = .ok (.iload_n 3, 1) := by decide +kernel
theorem dX7_asksMark_32 : decode cX7_asksMark 32 = .ok (.iload 4, 2) := by decide +kernel
theorem dX7_asksMark_34 : decode cX7_asksMark 34 = .ok (.iload 4, 2) := by decide +kernel
theorem dX7_asksMark_36 : decode cX7_asksMark 36 = .ok (.ifCond .eq 17, 3) := by decide +kernel
theorem dX7_asksMark_39 : decode cX7_asksMark 39 = .ok (.iload_n 2, 1) := by decide +kernel
theorem dX7_asksMark_40 : decode cX7_asksMark 40 = .ok (.aload_n 0, 1) := by decide +kernel
theorem dX7_asksMark_41 : decode cX7_asksMark 41 = .ok (.getfield 90, 3) := by decide +kernel
theorem dX7_asksMark_44 : decode cX7_asksMark 44 = .ok (.iload_n 1, 1) := by decide +kernel
theorem dX7_asksMark_45 : decode cX7_asksMark 45 = .ok (.iaload, 1) := by decide +kernel
theorem dX7_asksMark_46 : decode cX7_asksMark 46 = .ok (.if_icmp .lt 7, 3) := by decide +kernel
theorem dX7_asksMark_49 : decode cX7_asksMark 49 = .ok (.iconst 1, 1) := by decide +kernel
theorem dX7_asksMark_50 : decode cX7_asksMark 50 = .ok (.goto 4, 3) := by decide +kernel
theorem dX7_asksMark_53 : decode cX7_asksMark 53 = .ok (.iconst 0, 1) := by decide +kernel
theorem dX7_asksMark_54 : decode cX7_asksMark 54 = .ok (.invokevirtual 153, 3) := by decide +kernel
theorem dX7_asksMark_57 : decode cX7_asksMark 57 = .ok (.ireturn, 1) := by decide +kernel
theorem lk_X7_asksMark : LK yX7_asksMark cX7_asksMark 5 (some .boolean) 2 := ⟨qW_at 1838 (by decide +kernel) rfl, qW_at 78 (by decide +kernel) rfl, by decide, by decide, by decide +kernel⟩
theorem im_X7_asksMark : Cond.instanceMethod yX7_asksMark ∈ qW := qW_at 1837 (by decide +kernel) rfl
theorem se_X7_asksMark : Cond.selects RX7 yX7_asksMark yX7_asksMark ∈ qW := qW_at 72 (by decide +kernel) rfl
def F_X7_asksMark (this : Nat) (person_ : Int32) (above_ : Int32) : QX Int32 :=
  (xb (xb (xp person_) fun v1 => F_X7_isPerson v1) fun is_2 =>
  (xb (xb (xb (xb (xp is_2) fun v3 => xp (decide (¬ v3 = 0))) fun v11 => if v11 then (xb (xb (xp above_) fun v7 => xb (xp (0 : Int32)) fun v8 => xb (xb (xb (xp (some this)) fun v4 => xgr 8 27 v4) fun v5 => xb (xp person_) fun v6 => xai 0 v5 v6) fun v9 => F_X7_in v7 v8 v9) fun v10 => xp (decide (¬ v10 = 0))) else xp false) fun v12 => xp (b2i v12)) fun can_13 =>
  (xb (xb (xp (some this)) fun v22 => xb (xp is_2) fun v23 => xb (xp can_13) fun v24 => xb (xb (xb (xb (xp can_13) fun v14 => xp (decide (¬ v14 = 0))) fun v20 => if v20 then (xb (xp above_) fun v15 => xb (xb (xb (xp (some this)) fun v16 => xgr 8 28 v16) fun v17 => xb (xp person_) fun v18 => xai 0 v17 v18) fun v19 => xp (decide (v19 ≤ v15))) else xp false) fun v21 => xp (b2i v21)) fun v25 => xo 8 v22 fun q => F_X7_goes q v23 v24 v25) xz)))
set_option maxRecDepth 100000 in
set_option maxHeartbeats 4000000 in
theorem M_X7_asksMark (this : Nat) (person_ : Int32) (above_ : Int32) : MM yX7_asksMark cX7_asksMark 5 (some .boolean) 2 42 0 0 encI [.ref this, .int person_, .int above_] (F_X7_asksMark this person_ above_) := by
  refine MM_of (env0 := [(0, va_rf (some this)), (1, .int person_), (2, .int above_)]) (by decide) (by exact Nat.le_of_ble_eq_true rfl) (by rfl) (fun k mm res X C hR hN hr hname h => ?_)
  have X : CX k cX7_asksMark RX7 := X
  have hT : TH k (fun e m' => res = (.error e, m')) := TH_of C
  have htr := C.2.2.2.1
  unfold F_X7_asksMark at h
  exact SB_go (T := fun e m' => res = (.error e, m')) (RET := fun v m' => res = (.ok v, m')) (SB_let (XE_1 (pB := pI)  (L_iload_n (x := person_) 1 X dX7_asksMark_0 rfl rfl) (fun v0 st mm a b hd hc hs h => g_callS (st := st) X hT htr (M_X7_isPerson v0) lk_X7_isPerson st_X7_isPerson ml_X7_202 rfl (by rw [hR]; exact ⟨Nat.le_of_ble_eq_true rfl, Nat.le_of_ble_eq_true rfl⟩) (Nat.le_trans hd (by decide)) ⟨hc, hs⟩ dX7_asksMark_1 h)) (S_istore_n (ev := fun is_2 => [(3, .int is_2), (0, va_rf (some this)), (1, .int person_), (2, .int above_)]) X dX7_asksMark_4 rfl (by rw [hN]; decide) (fun _ => rfl)) fun is_2 =>
  (SB_let (XE_b2i (CE_and (CE_1 (L_iload_n (x := is_2) 0 X dX7_asksMark_5 rfl rfl) (Z_ne_F X dX7_asksMark_6 (by decide))) (CE_1 (XE_3 (pB := pI) wI wI (L_iload_n (x := above_) 3 X dX7_asksMark_9 rfl rfl) (L_iconst (v := 0) X dX7_asksMark_10 (by decide)) (XE_2 wR (XE_1 (L_aload_n (r := (some this)) 1 X dX7_asksMark_11 rfl rfl) (O_gr (c := 8) (j := 27) X rfl inW7 (by decide) fl_X7_87 rfl dX7_asksMark_12)) (L_iload_n (x := person_) 2 X dX7_asksMark_15 rfl rfl) (O_ai X dX7_asksMark_16)) (fun v0 v1 v2 st mm a b hd hc hs h => g_callS (st := st) X hT htr (M_X7_in v0 v1 v2) lk_X7_in st_X7_in ml_X7_139 rfl (by rw [hR]; exact ⟨Nat.le_of_ble_eq_true rfl, Nat.le_of_ble_eq_true rfl⟩) (Nat.le_trans hd (by decide)) ⟨hc, hs⟩ dX7_asksMark_17 h)) (Z_ne_F X dX7_asksMark_20 (by decide)))) (S_b1 X dX7_asksMark_23 dX7_asksMark_24 (by decide)) (S_b0 X dX7_asksMark_27)) (S_istore (ev := fun can_13 => [(4, .int can_13), (3, .int is_2), (0, va_rf (some this)), (1, .int person_), (2, .int above_)]) X dX7_asksMark_28 (by rw [hN]; decide) (fun _ => rfl)) fun can_13 =>
  (SB_retZ X C hr dX7_asksMark_57 (XE_4 (pB := pI) wR wI wI (L_aload_n (r := (some this)) 2 X dX7_asksMark_30 rfl rfl) (L_iload_n (x := is_2) 1 X dX7_asksMark_31 rfl rfl) (L_iload (x := can_13) 0 X dX7_asksMark_32 rfl) (XE_b2i (CE_and (CE_1 (L_iload (x := can_13) 0 X dX7_asksMark_34 rfl) (Z_ne_F X dX7_asksMark_36 (by decide))) (CE_2 wI (L_iload_n (x := above_) 4 X dX7_asksMark_39 rfl rfl) (XE_2 wR (XE_1 (L_aload_n (r := (some this)) 2 X dX7_asksMark_40 rfl rfl) (O_gr (c := 8) (j := 28) X rfl inW7 (by decide) fl_X7_90 rfl dX7_asksMark_41)) (L_iload_n (x := person_) 3 X dX7_asksMark_44 rfl rfl) (O_ai X dX7_asksMark_45)) (C_ge_F X dX7_asksMark_46 (by decide)))) (S_b1 X dX7_asksMark_49 dX7_asksMark_50 (by decide)) (S_b0 X dX7_asksMark_53)) (fun v0 v1 v2 v3 st mm a b hd hc hs h => g_callVo (st := st) (cI := 8) X hT htr rfl (fun q => M_X7_goes q v1 v2 v3) lk_X7_goes im_X7_goes se_X7_goes ml_X7_153 rfl (by rw [hR]; exact ⟨Nat.le_of_ble_eq_true rfl, Nat.le_of_ble_eq_true rfl⟩) (Nat.le_trans hd (by decide)) ⟨hc, hs⟩ dX7_asksMark_54 h))))) h (by rw [hR]; decide) (by rw [hR]; decide)
theorem dX7_changes_0 : decode cX7_changes 0 = .ok (.aload_n 0, 1) := by decide +kernel
theorem dX7_changes_1 : decode cX7_changes 1 = .ok (.iload_n 1, 1) := by decide +kernel
theorem dX7_changes_2 : decode cX7_changes 2 = .ok (.iload_n 2, 1) := by decide +kernel
theorem dX7_changes_3 : decode cX7_changes 3 = .ok (.invokevirtual 361, 3) := by decide +kernel
theorem dX7_changes_6 : decode cX7_changes 6 = .ok (.ifCond .eq 12, 3) := by decide +kernel
theorem dX7_changes_9 : decode cX7_changes 9 = .ok (.aload_n 0, 1) := by decide +kernel
theorem dX7_changes_10 : decode cX7_changes 10 = .ok (.iload_n 1, 1) := by decide +kernel
theorem dX7_changes_11 : decode cX7_changes 11 = .ok (.iload_n 2, 1) := by decide +kernel
theorem dX7_changes_12 : decode cX7_changes 12 = .ok (.invokevirtual 364, 3) := by decide +kernel
theorem dX7_changes_15 : decode cX7_changes 15 = .ok (.goto 4, 3) := by decide +kernel
theorem dX7_changes_18 : decode cX7_changes 18 = .ok (.iconst 0, 1) := by decide +kernel
theorem dX7_changes_19 : decode cX7_changes 19 = .ok (.ireturn, 1) := by decide +kernel
theorem lk_X7_changes : LK yX7_changes cX7_changes 3 (some .int) 2 := ⟨qW_at 1834 (by decide +kernel) rfl, qW_at 78 (by decide +kernel) rfl, by decide, by decide, by decide +kernel⟩
theorem im_X7_changes : Cond.instanceMethod yX7_changes ∈ qW := qW_at 1832 (by decide +kernel) rfl
theorem se_X7_changes : Cond.selects RX7 yX7_changes yX7_changes ∈ qW := qW_at 1833 (by decide +kernel) rfl
def F_X7_changes (this : Nat) (person_ : Int32) (above_ : Int32) : QX Int32 :=
  (xb (xb (xb (xp (some this)) fun v1 => xb (xp person_) fun v2 => xb (xp above_) fun v3 => xo 8 v1 fun q => F_X7_asksMark q v2 v3) fun v4 => xp (decide (¬ v4 = 0))) fun v8 => if v8 then (xb (xp (some this)) fun v5 => xb (xp person_) fun v6 => xb (xp above_) fun v7 => xo 8 v5 fun q => F_X7_changed q v6 v7) else (xp (0 : Int32)))
set_option maxRecDepth 100000 in
set_option maxHeartbeats 4000000 in
theorem M_X7_changes (this : Nat) (person_ : Int32) (above_ : Int32) : MM yX7_changes cX7_changes 3 (some .int) 3 66 0 0 encI [.ref this, .int person_, .int above_] (F_X7_changes this person_ above_) := by
  refine MM_of (env0 := [(0, va_rf (some this)), (1, .int person_), (2, .int above_)]) (by decide) (by exact Nat.le_of_ble_eq_true rfl) (by rfl) (fun k mm res X C hR hN hr hname h => ?_)
  have X : CX k cX7_changes RX7 := X
  have hT : TH k (fun e m' => res = (.error e, m')) := TH_of C
  have htr := C.2.2.2.1
  unfold F_X7_changes at h
  exact SB_go (T := fun e m' => res = (.error e, m')) (RET := fun v m' => res = (.ok v, m')) (SB_retI X C hr dX7_changes_19 (XE_tern (CE_1 (XE_3 (pB := pI) wR wI (L_aload_n (r := (some this)) 0 X dX7_changes_0 rfl rfl) (L_iload_n (x := person_) 1 X dX7_changes_1 rfl rfl) (L_iload_n (x := above_) 2 X dX7_changes_2 rfl rfl) (fun v0 v1 v2 st mm a b hd hc hs h => g_callVo (st := st) (cI := 8) X hT htr rfl (fun q => M_X7_asksMark q v1 v2) lk_X7_asksMark im_X7_asksMark se_X7_asksMark ml_X7_361 rfl (by rw [hR]; exact ⟨Nat.le_of_ble_eq_true rfl, Nat.le_of_ble_eq_true rfl⟩) (Nat.le_trans hd (by decide)) ⟨hc, hs⟩ dX7_changes_3 h)) (Z_ne_F X dX7_changes_6 (by decide))) (XE_3 (pB := pI) wR wI (L_aload_n (r := (some this)) 0 X dX7_changes_9 rfl rfl) (L_iload_n (x := person_) 1 X dX7_changes_10 rfl rfl) (L_iload_n (x := above_) 2 X dX7_changes_11 rfl rfl) (fun v0 v1 v2 st mm a b hd hc hs h => g_callVo (st := st) (cI := 8) X hT htr rfl (fun q => M_X7_changed q v1 v2) lk_X7_changed im_X7_changed se_X7_changed ml_X7_364 rfl (by rw [hR]; exact ⟨Nat.le_of_ble_eq_true rfl, Nat.le_of_ble_eq_true rfl⟩) (Nat.le_trans hd (by decide)) ⟨hc, hs⟩ dX7_changes_12 h)) (S_goto X dX7_changes_15 (by decide)) (L_iconst (v := 0) X dX7_changes_18 (by decide)))) h (by rw [hR]; decide) (by rw [hR]; decide)
theorem dX7_changeAt_0 : decode cX7_changeAt 0 = .ok (.aload_n 0, 1) := by decide +kernel
theorem dX7_changeAt_1 : decode cX7_changeAt 1 = .ok (.iload_n 1, 1) := by decide +kernel
theorem dX7_changeAt_2 : decode cX7_changeAt 2 = .ok (.iload_n 2, 1) := by decide +kernel
theorem dX7_changeAt_3 : decode cX7_changeAt 3 = .ok (.invokevirtual 361, 3) := by decide +kernel
theorem dX7_changeAt_6 : decode cX7_changeAt 6 = .ok (.ifCond .eq 25, 3) := by decide +kernel
theorem dX7_changeAt_9 : decode cX7_changeAt 9 = .ok (.aload_n 0, 1) := by decide +kernel
theorem dX7_changeAt_10 : decode cX7_changeAt 10 = .ok (.iload_n 3, 1) := by decide +kernel
theorem dX7_changeAt_11 : decode cX7_changeAt 11 = .ok (.iconst 0, 1) := by decide +kernel
theorem dX7_changeAt_12 : decode cX7_changeAt 12 = .ok (.aload_n 0, 1) := by decide +kernel
theorem dX7_changeAt_13 : decode cX7_changeAt 13 = .ok (.iload_n 1, 1) := by decide +kernel
theorem dX7_changeAt_14 : decode cX7_changeAt 14 = .ok (.iload_n 2, 1) := by decide +kernel
theorem dX7_changeAt_15 : decode cX7_changeAt 15 = .ok (.invokevirtual 364, 3) := by decide +kernel
theorem dX7_changeAt_18 : decode cX7_changeAt 18 = .ok (.iconst 1, 1) := by decide +kernel
theorem dX7_changeAt_19 : decode cX7_changeAt 19 = .ok (.isub, 1) := by decide +kernel
theorem dX7_changeAt_20 : decode cX7_changeAt 20 = .ok (.invokestatic 139, 3) := by decide +kernel
theorem dX7_changeAt_23 : decode cX7_changeAt 23 = .ok (.iconst 1, 1) := by decide +kernel
theorem dX7_changeAt_24 : decode cX7_changeAt 24 = .ok (.iconst 1, 1) := by decide +kernel
theorem dX7_changeAt_25 : decode cX7_changeAt 25 = .ok (.invokevirtual 153, 3) := by decide +kernel
theorem dX7_changeAt_28 : decode cX7_changeAt 28 = .ok (.ifCond .ne 5, 3) := by decide +kernel
theorem dX7_changeAt_31 : decode cX7_changeAt 31 = .ok (.iconst 0, 1) := by decide +kernel
theorem dX7_changeAt_32 : decode cX7_changeAt 32 = .ok (.ireturn, 1) := by decide +kernel
theorem dX7_changeAt_33 : decode cX7_changeAt 33 = .ok (.iconst (-1), 1) := by decide +kernel
theorem dX7_changeAt_34 : decode cX7_changeAt 34 = .ok (.istore 4, 2) := by decide +kernel
theorem dX7_changeAt_36 : decode cX7_changeAt 36 = .ok (.iconst 0, 1) := by decide +kernel
theorem dX7_changeAt_37 : decode cX7_changeAt 37 = .ok (.istore 5, 2) := by decide +kernel
theorem dX7_changeAt_39 : decode cX7_changeAt 39 = .ok (.iload 5, 2) := by decide +kernel
theorem dX7_changeAt_41 : decode cX7_changeAt 41 = .ok (.aload_n 0, 1) := by decide +kernel
theorem dX7_changeAt_42 : decode cX7_changeAt 42 = .ok (.getfield 143, 3) := by decide +kernel
theorem dX7_changeAt_45 : decode cX7_changeAt 45 = .ok (.if_icmp .ge 110, 3) := by decide +kernel
theorem dX7_changeAt_48 : decode cX7_changeAt 48 = .ok (.iconst 0, 1) := by decide +kernel
theorem dX7_changeAt_49 : decode cX7_changeAt 49 = .ok (.istore 6, 2) := by decide +kernel
theorem dX7_changeAt_51 : decode cX7_changeAt 51 = .ok (.iconst 0, 1) := by decide +kernel
theorem dX7_changeAt_52 : decode cX7_changeAt 52 = .ok (.istore 7, 2) := by decide +kernel
theorem dX7_changeAt_54 : decode cX7_changeAt 54 = .ok (.iload 7, 2) := by decide +kernel
theorem dX7_changeAt_56 : decode cX7_changeAt 56 = .ok (.aload_n 0, 1) := by decide +kernel
theorem dX7_changeAt_57 : decode cX7_changeAt 57 = .ok (.getfield 143, 3) := by decide +kernel
theorem dX7_changeAt_60 : decode cX7_changeAt 60 = .ok (.if_icmp .ge 59, 3) := by decide +kernel
theorem dX7_changeAt_63 : decode cX7_changeAt 63 = .ok (.iload 6, 2) := by decide +kernel
theorem dX7_changeAt_65 : decode cX7_changeAt 65 = .ok (.aload_n 0, 1) := by decide +kernel
theorem dX7_changeAt_66 : decode cX7_changeAt 66 = .ok (.getfield 84, 3) := by decide +kernel
theorem dX7_changeAt_69 : decode cX7_changeAt 69 = .ok (.iload_n 1, 1) := by decide +kernel
theorem dX7_changeAt_70 : decode cX7_changeAt 70 = .ok (.iload 7, 2) := by decide +kernel
theorem dX7_changeAt_72 : decode cX7_changeAt 72 = .ok (.invokestatic 171, 3) := by decide +kernel
theorem dX7_changeAt_75 : decode cX7_changeAt 75 = .ok (.iaload, 1) := by decide +kernel
theorem dX7_changeAt_76 : decode cX7_changeAt 76 = .ok (.iload_n 2, 1) := by decide +kernel
theorem dX7_changeAt_77 : decode cX7_changeAt 77 = .ok (.if_icmp .le 32, 3) := by decide +kernel
theorem dX7_changeAt_80 : decode cX7_changeAt 80 = .ok (.aload_n 0, 1) := by decide +kernel
theorem dX7_changeAt_81 : decode cX7_changeAt 81 = .ok (.getfield 84, 3) := by decide +kernel
theorem dX7_changeAt_84 : decode cX7_changeAt 84 = .ok (.iload_n 1, 1) := by decide +kernel
theorem dX7_changeAt_85 : decode cX7_changeAt 85 = .ok (.iload 7, 2) := by decide +kernel
theorem dX7_changeAt_87 : decode cX7_changeAt 87 = .ok (.invokestatic 171, 3) := by decide +kernel
theorem dX7_changeAt_90 : decode cX7_changeAt 90 = .ok (.iaload, 1) := by decide +kernel
theorem dX7_changeAt_91 : decode cX7_changeAt 91 = .ok (.aload_n 0, 1) := by decide +kernel
theorem dX7_changeAt_92 : decode cX7_changeAt 92 = .ok (.getfield 84, 3) := by decide +kernel
theorem dX7_changeAt_95 : decode cX7_changeAt 95 = .ok (.iload_n 1, 1) := by decide +kernel
theorem dX7_changeAt_96 : decode cX7_changeAt 96 = .ok (.iload 5, 2) := by decide +kernel
theorem dX7_changeAt_98 : decode cX7_changeAt 98 = .ok (.invokestatic 171, 3) := by decide +kernel
theorem dX7_changeAt_101 : decode cX7_changeAt 101 = .ok (.iaload, 1) := by decide +kernel
theorem dX7_changeAt_102 : decode cX7_changeAt 102 = .ok (.if_icmp .ge 7, 3) := by decide +kernel
theorem dX7_changeAt_105 : decode cX7_changeAt 105 = .ok (.iconst 1, 1) := by decide +kernel
theorem dX7_changeAt_106 : decode cX7_changeAt 106 = .ok (.goto 4, 3) := by decide +kernel
theorem dX7_changeAt_109 : decode cX7_changeAt 109 = .ok (.iconst 0, 1) := by decide +kernel
theorem dX7_changeAt_110 : decode cX7_changeAt 110 = .ok (.iadd, 1) := by decide +kernel
theorem dX7_changeAt_111 : decode cX7_changeAt 111 = .ok (.istore 6, 2) := by decide +kernel
theorem dX7_changeAt_113 : decode cX7_changeAt 113 = .ok (.iinc 7 1, 3) := by decide +kernel
theorem dX7_changeAt_116 : decode cX7_changeAt 116 = .ok (.goto (-62), 3) := by decide +kernel
theorem dX7_changeAt_119 : decode cX7_changeAt 119 = .ok (.aload_n 0, 1) := by decide +kernel
theorem dX7_changeAt_120 : decode cX7_changeAt 120 = .ok (.getfield 84, 3) := by decide +kernel
theorem dX7_changeAt_123 : decode cX7_changeAt 123 = .ok (.iload_n 1, 1) := by decide +kernel
theorem dX7_changeAt_124 : decode cX7_changeAt 124 = .ok (.iload 5, 2) := by decide +kernel
theorem dX7_changeAt_126 : decode cX7_changeAt 126 = .ok (.invokestatic 171, 3) := by decide +kernel
theorem dX7_changeAt_129 : decode cX7_changeAt 129 = .ok (.iaload, 1) := by decide +kernel
theorem dX7_changeAt_130 : decode cX7_changeAt 130 = .ok (.iload_n 2, 1) := by decide +kernel
theorem dX7_changeAt_131 : decode cX7_changeAt 131 = .ok (.if_icmp .le 14, 3) := by decide +kernel
theorem dX7_changeAt_134 : decode cX7_changeAt 134 = .ok (.iload 6, 2) := by decide +kernel
theorem dX7_changeAt_136 : decode cX7_changeAt 136 = .ok (.iload_n 3, 1) := by decide +kernel
theorem dX7_changeAt_137 : decode cX7_changeAt 137 = .ok (.if_icmp .ne 8, 3) := by decide +kernel
theorem dX7_changeAt_140 : decode cX7_changeAt 140 = .ok (.iload 5, 2) := by decide +kernel
theorem dX7_changeAt_142 : decode cX7_changeAt 142 = .ok (.goto 5, 3) := by decide +kernel
theorem dX7_changeAt_145 : decode cX7_changeAt 145 = .ok (.iload 4, 2) := by decide +kernel
theorem dX7_changeAt_147 : decode cX7_changeAt 147 = .ok (.istore 4, 2) := by decide +kernel
theorem dX7_changeAt_149 : decode cX7_changeAt 149 = .ok (.iinc 5 1, 3) := by decide +kernel
theorem dX7_changeAt_152 : decode cX7_changeAt 152 = .ok (.goto (-113), 3) := by decide +kernel
theorem dX7_changeAt_155 : decode cX7_changeAt 155 = .ok (.iload 4, 2) := by decide +kernel
theorem dX7_changeAt_157 : decode cX7_changeAt 157 = .ok (.ireturn, 1) := by decide +kernel
theorem lk_X7_changeAt : LK yX7_changeAt cX7_changeAt 8 (some .int) 3 := ⟨qW_at 1846 (by decide +kernel) rfl, qW_at 78 (by decide +kernel) rfl, by decide, by decide, by decide +kernel⟩
theorem im_X7_changeAt : Cond.instanceMethod yX7_changeAt ∈ qW := qW_at 1844 (by decide +kernel) rfl
theorem se_X7_changeAt : Cond.selects RX7 yX7_changeAt yX7_changeAt ∈ qW := qW_at 1845 (by decide +kernel) rfl
def F_X7_changeAt (this : Nat) (person_ : Int32) (above_ : Int32) (place_ : Int32) : QX Int32 :=
  (xb (xb (xb (xb (xb (xp (some this)) fun v1 => xb (xp person_) fun v2 => xb (xp above_) fun v3 => xo 8 v1 fun q => F_X7_asksMark q v2 v3) fun v4 => xp (decide (¬ v4 = 0))) fun v5 => xp (!v5)) fun v20 => if v20 then xp true else (xb (xb (xb (xp (some this)) fun v14 => xb (xb (xp place_) fun v11 => xb (xp (0 : Int32)) fun v12 => xb (xb (xb (xp (some this)) fun v6 => xb (xp person_) fun v7 => xb (xp above_) fun v8 => xo 8 v6 fun q => F_X7_changed q v7 v8) fun v9 => xb (xp (1 : Int32)) fun v10 => (xp (v9 - v10))) fun v13 => F_X7_in v11 v12 v13) fun v15 => xb (xp (1 : Int32)) fun v16 => xb (xp (1 : Int32)) fun v17 => xo 8 v14 fun q => F_X7_goes q v15 v16 v17) fun v18 => xp (decide (¬ v18 = 0))) fun v19 => xp (!v19))) fun v71 => if v71 then (xp (0 : Int32)) else
  (xb (xp (-1 : Int32)) fun found_21 =>
  (xb (xp (0 : Int32)) fun k_22 =>
  (xb (xl 2000 (fun (s23 : Int32 × Int32) => (xb (xp s23.2) fun v24 => xb (xb (xp (some this)) fun v25 => xgi 8 3 v25) fun v26 => xp (decide (v24 < v26)))) (fun (s23 : Int32 × Int32) =>
  (xb (xp (0 : Int32)) fun ahead_27 =>
  (xb (xp (0 : Int32)) fun n_28 =>
  (xb (xl 2000 (fun (s29 : Int32 × Int32) => (xb (xp s29.2) fun v30 => xb (xb (xp (some this)) fun v31 => xgi 8 3 v31) fun v32 => xp (decide (v30 < v32)))) (fun (s29 : Int32 × Int32) =>
  (xb (xb (xp s29.1) fun v54 => xb (xb (xb (xb (xb (xb (xp (some this)) fun v33 => xgr 8 26 v33) fun v36 => xb (xb (xp person_) fun v34 => xb (xp s29.2) fun v35 => F_X7_at v34 v35) fun v37 => xai 0 v36 v37) fun v38 => xb (xp above_) fun v39 => xp (decide (v39 < v38))) fun v52 => if v52 then (xb (xb (xb (xp (some this)) fun v40 => xgr 8 26 v40) fun v43 => xb (xb (xp person_) fun v41 => xb (xp s29.2) fun v42 => F_X7_at v41 v42) fun v44 => xai 0 v43 v44) fun v45 => xb (xb (xb (xp (some this)) fun v46 => xgr 8 26 v46) fun v49 => xb (xb (xp person_) fun v47 => xb (xp s23.2) fun v48 => F_X7_at v47 v48) fun v50 => xai 0 v49 v50) fun v51 => xp (decide (v45 < v51))) else xp false) fun v53 => if v53 then (xp (1 : Int32)) else (xp (0 : Int32))) fun v55 => (xp (v54 + v55))) fun ahead_56 =>
  (xp (ahead_56, (s29.2 + 1))))) (ahead_27, n_28)) fun s57 =>
  (xb (xb (xb (xb (xb (xb (xp (some this)) fun v58 => xgr 8 26 v58) fun v61 => xb (xb (xp person_) fun v59 => xb (xp s23.2) fun v60 => F_X7_at v59 v60) fun v62 => xai 0 v61 v62) fun v63 => xb (xp above_) fun v64 => xp (decide (v64 < v63))) fun v67 => if v67 then (xb (xp s57.1) fun v65 => xb (xp place_) fun v66 => xp (decide (v65 = v66))) else xp false) fun v68 => if v68 then (xp s23.2) else (xp s23.1)) fun found_69 =>
  (xp (found_69, (s23.2 + 1)))))))) (found_21, k_22)) fun s70 =>
  (xp s70.1)))))
set_option maxRecDepth 100000 in
set_option maxHeartbeats 4000000 in
theorem M_X7_changeAt (this : Nat) (person_ : Int32) (above_ : Int32) (place_ : Int32) : MM yX7_changeAt cX7_changeAt 8 (some .int) 3 66 0 0 encI [.ref this, .int person_, .int above_, .int place_] (F_X7_changeAt this person_ above_ place_) := by
  refine MM_of (env0 := [(0, va_rf (some this)), (1, .int person_), (2, .int above_), (3, .int place_)]) (by decide) (by exact Nat.le_of_ble_eq_true rfl) (by rfl) (fun k mm res X C hR hN hr hname h => ?_)
  have X : CX k cX7_changeAt RX7 := X
  have hT : TH k (fun e m' => res = (.error e, m')) := TH_of C
  have htr := C.2.2.2.1
  unfold F_X7_changeAt at h
  exact SB_go (T := fun e m' => res = (.error e, m')) (RET := fun v m' => res = (.ok v, m')) (SB_if (CE_or (CE_not (CE_1 (XE_3 (pB := pI) wR wI (L_aload_n (r := (some this)) 0 X dX7_changeAt_0 rfl rfl) (L_iload_n (x := person_) 1 X dX7_changeAt_1 rfl rfl) (L_iload_n (x := above_) 2 X dX7_changeAt_2 rfl rfl) (fun v0 v1 v2 st mm a b hd hc hs h => g_callVo (st := st) (cI := 8) X hT htr rfl (fun q => M_X7_asksMark q v1 v2) lk_X7_asksMark im_X7_asksMark se_X7_asksMark ml_X7_361 rfl (by rw [hR]; exact ⟨Nat.le_of_ble_eq_true rfl, Nat.le_of_ble_eq_true rfl⟩) (Nat.le_trans hd (by decide)) ⟨hc, hs⟩ dX7_changeAt_3 h)) (Z_ne_F X dX7_changeAt_6 (by decide)))) (CE_not (CE_1 (XE_4 (pB := pI) wR wI wI (L_aload_n (r := (some this)) 0 X dX7_changeAt_9 rfl rfl) (XE_3 (pB := pI) wI wI (L_iload_n (x := place_) 3 X dX7_changeAt_10 rfl rfl) (L_iconst (v := 0) X dX7_changeAt_11 (by decide)) (XE_2 wI (XE_3 (pB := pI) wR wI (L_aload_n (r := (some this)) 0 X dX7_changeAt_12 rfl rfl) (L_iload_n (x := person_) 1 X dX7_changeAt_13 rfl rfl) (L_iload_n (x := above_) 2 X dX7_changeAt_14 rfl rfl) (fun v0 v1 v2 st mm a b hd hc hs h => g_callVo (st := st) (cI := 8) X hT htr rfl (fun q => M_X7_changed q v1 v2) lk_X7_changed im_X7_changed se_X7_changed ml_X7_364 rfl (by rw [hR]; exact ⟨Nat.le_of_ble_eq_true rfl, Nat.le_of_ble_eq_true rfl⟩) (Nat.le_trans hd (by decide)) ⟨hc, hs⟩ dX7_changeAt_15 h)) (L_iconst (v := 1) X dX7_changeAt_18 (by decide)) (O_isub X dX7_changeAt_19)) (fun v0 v1 v2 st mm a b hd hc hs h => g_callS (st := st) X hT htr (M_X7_in v0 v1 v2) lk_X7_in st_X7_in ml_X7_139 rfl (by rw [hR]; exact ⟨Nat.le_of_ble_eq_true rfl, Nat.le_of_ble_eq_true rfl⟩) (Nat.le_trans hd (by decide)) ⟨hc, hs⟩ dX7_changeAt_20 h)) (L_iconst (v := 1) X dX7_changeAt_23 (by decide)) (L_iconst (v := 1) X dX7_changeAt_24 (by decide)) (fun v0 v1 v2 v3 st mm a b hd hc hs h => g_callVo (st := st) (cI := 8) X hT htr rfl (fun q => M_X7_goes q v1 v2 v3) lk_X7_goes im_X7_goes se_X7_goes ml_X7_153 rfl (by rw [hR]; exact ⟨Nat.le_of_ble_eq_true rfl, Nat.le_of_ble_eq_true rfl⟩) (Nat.le_trans hd (by decide)) ⟨hc, hs⟩ dX7_changeAt_25 h)) (Z_ne_T X dX7_changeAt_28 (by decide)))))
  (SB_retI X C hr dX7_changeAt_32 (L_iconst (v := 0) X dX7_changeAt_31 (by decide)))
  (SB_let (L_iconst (v := (-1)) X dX7_changeAt_33 (by decide)) (S_istore (ev := fun found_21 => [(4, .int found_21), (0, va_rf (some this)), (1, .int person_), (2, .int above_), (3, .int place_)]) X dX7_changeAt_34 (by rw [hN]; decide) (fun _ => rfl)) fun found_21 =>
  (SB_let (L_iconst (v := 0) X dX7_changeAt_36 (by decide)) (S_istore (ev := fun k_22 => [(5, .int k_22), (4, .int found_21), (0, va_rf (some this)), (1, .int person_), (2, .int above_), (3, .int place_)]) X dX7_changeAt_37 (by rw [hN]; decide) (fun _ => rfl)) fun k_22 =>
  (SB_seq (ST_loop (σ := Int32 × Int32) (upd := (fun (s : Int32 × Int32) => [(5, .int s.2), (4, .int s.1), (0, va_rf (some this)), (1, .int person_), (2, .int above_), (3, .int place_)])) (s0 := (found_21, k_22)) (n := 2000) (fun mm a b h => GG_sub [0, 1, 2, 3, 4, 5] rfl h)
  (fun s23 => (CE_2 wI (L_iload (x := s23.2) 0 X dX7_changeAt_39 rfl) (XE_1 (L_aload_n (r := (some this)) 2 X dX7_changeAt_41 rfl rfl) (O_gi (c := 8) (j := 3) X rfl inW7 (by decide) fl_X7_143 rfl dX7_changeAt_42)) (C_lt_F X dX7_changeAt_45 (by decide))))
  (fun s23 => (ST_post (ST_let (L_iconst (v := 0) X dX7_changeAt_48 (by decide)) (S_istore (ev := fun ahead_27 => [(6, .int ahead_27), (5, .int s23.2), (4, .int s23.1), (0, va_rf (some this)), (1, .int person_), (2, .int above_), (3, .int place_)]) X dX7_changeAt_49 (by rw [hN]; decide) (fun _ => rfl)) fun ahead_27 =>
  (ST_let (L_iconst (v := 0) X dX7_changeAt_51 (by decide)) (S_istore (ev := fun n_28 => [(7, .int n_28), (6, .int ahead_27), (5, .int s23.2), (4, .int s23.1), (0, va_rf (some this)), (1, .int person_), (2, .int above_), (3, .int place_)]) X dX7_changeAt_52 (by rw [hN]; decide) (fun _ => rfl)) fun n_28 =>
  (ST_seq (ST_loop (σ := Int32 × Int32) (upd := (fun (s : Int32 × Int32) => [(7, .int s.2), (6, .int s.1), (5, .int s23.2), (4, .int s23.1), (0, va_rf (some this)), (1, .int person_), (2, .int above_), (3, .int place_)])) (s0 := (ahead_27, n_28)) (n := 2000) (fun mm a b h => GG_sub [0, 1, 2, 3, 4, 5, 6, 7] rfl h)
  (fun s29 => (CE_2 wI (L_iload (x := s29.2) 0 X dX7_changeAt_54 rfl) (XE_1 (L_aload_n (r := (some this)) 4 X dX7_changeAt_56 rfl rfl) (O_gi (c := 8) (j := 3) X rfl inW7 (by decide) fl_X7_143 rfl dX7_changeAt_57)) (C_lt_F X dX7_changeAt_60 (by decide))))
  (fun s29 => (ST_post (ST_let (XE_2 wI (L_iload (x := s29.1) 1 X dX7_changeAt_63 rfl) (XE_tern (CE_and (CE_2 wI (XE_2 wR (XE_1 (L_aload_n (r := (some this)) 4 X dX7_changeAt_65 rfl rfl) (O_gr (c := 8) (j := 26) X rfl inW7 (by decide) fl_X7_84 rfl dX7_changeAt_66)) (XE_2 (pB := pI) wI (L_iload_n (x := person_) 5 X dX7_changeAt_69 rfl rfl) (L_iload (x := s29.2) 0 X dX7_changeAt_70 rfl) (fun v0 v1 st mm a b hd hc hs h => g_callS (st := st) X hT htr (M_X7_at v0 v1) lk_X7_at st_X7_at ml_X7_171 rfl (by rw [hR]; exact ⟨Nat.le_of_ble_eq_true rfl, Nat.le_of_ble_eq_true rfl⟩) (Nat.le_trans hd (by decide)) ⟨hc, hs⟩ dX7_changeAt_72 h)) (O_ai X dX7_changeAt_75)) (L_iload_n (x := above_) 6 X dX7_changeAt_76 rfl rfl) (C_gt_F X dX7_changeAt_77 (by decide))) (CE_2 wI (XE_2 wR (XE_1 (L_aload_n (r := (some this)) 4 X dX7_changeAt_80 rfl rfl) (O_gr (c := 8) (j := 26) X rfl inW7 (by decide) fl_X7_84 rfl dX7_changeAt_81)) (XE_2 (pB := pI) wI (L_iload_n (x := person_) 5 X dX7_changeAt_84 rfl rfl) (L_iload (x := s29.2) 0 X dX7_changeAt_85 rfl) (fun v0 v1 st mm a b hd hc hs h => g_callS (st := st) X hT htr (M_X7_at v0 v1) lk_X7_at st_X7_at ml_X7_171 rfl (by rw [hR]; exact ⟨Nat.le_of_ble_eq_true rfl, Nat.le_of_ble_eq_true rfl⟩) (Nat.le_trans hd (by decide)) ⟨hc, hs⟩ dX7_changeAt_87 h)) (O_ai X dX7_changeAt_90)) (XE_2 wR (XE_1 (L_aload_n (r := (some this)) 4 X dX7_changeAt_91 rfl rfl) (O_gr (c := 8) (j := 26) X rfl inW7 (by decide) fl_X7_84 rfl dX7_changeAt_92)) (XE_2 (pB := pI) wI (L_iload_n (x := person_) 5 X dX7_changeAt_95 rfl rfl) (L_iload (x := s23.2) 2 X dX7_changeAt_96 rfl) (fun v0 v1 st mm a b hd hc hs h => g_callS (st := st) X hT htr (M_X7_at v0 v1) lk_X7_at st_X7_at ml_X7_171 rfl (by rw [hR]; exact ⟨Nat.le_of_ble_eq_true rfl, Nat.le_of_ble_eq_true rfl⟩) (Nat.le_trans hd (by decide)) ⟨hc, hs⟩ dX7_changeAt_98 h)) (O_ai X dX7_changeAt_101)) (C_lt_F X dX7_changeAt_102 (by decide)))) (L_iconst (v := 1) X dX7_changeAt_105 (by decide)) (S_goto X dX7_changeAt_106 (by decide)) (L_iconst (v := 0) X dX7_changeAt_109 (by decide))) (O_iadd X dX7_changeAt_110)) (S_istore (ev := fun ahead_56 => [(6, .int ahead_56), (7, .int s29.2), (5, .int s23.2), (4, .int s23.1), (0, va_rf (some this)), (1, .int person_), (2, .int above_), (3, .int place_)]) X dX7_changeAt_111 (by rw [hN]; decide) (fun _ => rfl)) fun ahead_56 =>
  (ST_pre (env' := [(7, .int (s29.2 + 1)), (6, .int ahead_56), (5, .int s23.2), (4, .int s23.1), (0, va_rf (some this)), (1, .int person_), (2, .int above_), (3, .int place_)]) (S_iinc 1 X dX7_changeAt_113 rfl rfl (by rw [hN]; decide) rfl)
  (ST_done (upd := (fun (s : Int32 × Int32) => [(7, .int s.2), (6, .int s.1), (5, .int s23.2), (4, .int s23.1), (0, va_rf (some this)), (1, .int person_), (2, .int above_), (3, .int place_)])) (s := (ahead_56, (s29.2 + 1))) [0, 1, 2, 3, 4, 5, 6, 7] rfl))) fun _ mm a b h => S_goto X dX7_changeAt_116 (by decide) [] mm a b h))) fun s57 =>
  (ST_let (XE_tern (CE_and (CE_2 wI (XE_2 wR (XE_1 (L_aload_n (r := (some this)) 4 X dX7_changeAt_119 rfl rfl) (O_gr (c := 8) (j := 26) X rfl inW7 (by decide) fl_X7_84 rfl dX7_changeAt_120)) (XE_2 (pB := pI) wI (L_iload_n (x := person_) 5 X dX7_changeAt_123 rfl rfl) (L_iload (x := s23.2) 2 X dX7_changeAt_124 rfl) (fun v0 v1 st mm a b hd hc hs h => g_callS (st := st) X hT htr (M_X7_at v0 v1) lk_X7_at st_X7_at ml_X7_171 rfl (by rw [hR]; exact ⟨Nat.le_of_ble_eq_true rfl, Nat.le_of_ble_eq_true rfl⟩) (Nat.le_trans hd (by decide)) ⟨hc, hs⟩ dX7_changeAt_126 h)) (O_ai X dX7_changeAt_129)) (L_iload_n (x := above_) 6 X dX7_changeAt_130 rfl rfl) (C_gt_F X dX7_changeAt_131 (by decide))) (CE_2 wI (L_iload (x := s57.1) 1 X dX7_changeAt_134 rfl) (L_iload_n (x := place_) 7 X dX7_changeAt_136 rfl rfl) (C_eq_F X dX7_changeAt_137 (by decide)))) (L_iload (x := s23.2) 2 X dX7_changeAt_140 rfl) (S_goto X dX7_changeAt_142 (by decide)) (L_iload (x := s23.1) 3 X dX7_changeAt_145 rfl)) (S_istore (ev := fun found_69 => [(4, .int found_69), (7, .int s57.2), (6, .int s57.1), (5, .int s23.2), (0, va_rf (some this)), (1, .int person_), (2, .int above_), (3, .int place_)]) X dX7_changeAt_147 (by rw [hN]; decide) (fun _ => rfl)) fun found_69 =>
  (ST_pre (env' := [(5, .int (s23.2 + 1)), (4, .int found_69), (7, .int s57.2), (6, .int s57.1), (0, va_rf (some this)), (1, .int person_), (2, .int above_), (3, .int place_)]) (S_iinc 3 X dX7_changeAt_149 rfl rfl (by rw [hN]; decide) rfl)
  (ST_done (upd := (fun (s : Int32 × Int32) => [(5, .int s.2), (4, .int s.1), (0, va_rf (some this)), (1, .int person_), (2, .int above_), (3, .int place_)])) (s := (found_69, (s23.2 + 1))) [0, 1, 4, 5, 6, 7] rfl)))))) fun _ mm a b h => S_goto X dX7_changeAt_152 (by decide) [] mm a b h))) fun s70 =>
  (SB_retI X C hr dX7_changeAt_157 (L_iload (x := s70.1) 1 X dX7_changeAt_155 rfl)))))) h (by rw [hR]; decide) (by rw [hR]; decide)
