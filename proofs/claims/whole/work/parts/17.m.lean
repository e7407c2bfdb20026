theorem dX7_kept_0 : decode cX7_kept 0 = .ok (.iconst (-1), 1) := by decide +kernel
theorem dX7_kept_1 : decode cX7_kept 1 = .ok (.istore 4, 2) := by decide +kernel
theorem dX7_kept_3 : decode cX7_kept 3 = .ok (.iconst 0, 1) := by decide +kernel
theorem dX7_kept_4 : decode cX7_kept 4 = .ok (.istore 5, 2) := by decide +kernel
theorem dX7_kept_6 : decode cX7_kept 6 = .ok (.iload 5, 2) := by decide +kernel
theorem dX7_kept_8 : decode cX7_kept 8 = .ok (.aload_n 0, 1) := by decide +kernel
theorem dX7_kept_9 : decode cX7_kept 9 = .ok (.getfield 146, 3) := by decide +kernel
theorem dX7_kept_12 : decode cX7_kept 12 = .ok (.if_icmp .ge 95, 3) := by decide +kernel
theorem dX7_kept_15 : decode cX7_kept 15 = .ok (.aload_n 0, 1) := by decide +kernel
theorem dX7_kept_16 : decode cX7_kept 16 = .ok (.getfield 93, 3) := by decide +kernel
theorem dX7_kept_19 : decode cX7_kept 19 = .ok (.iload 5, 2) := by decide +kernel
theorem dX7_kept_21 : decode cX7_kept 21 = .ok (.iaload, 1) := by decide +kernel
theorem dX7_kept_22 : decode cX7_kept 22 = .ok (.iconst 1, 1) := by decide +kernel
theorem dX7_kept_23 : decode cX7_kept 23 = .ok (.if_icmp .ne 50, 3) := by decide +kernel
theorem dX7_kept_26 : decode cX7_kept 26 = .ok (.aload_n 0, 1) := by decide +kernel
theorem dX7_kept_27 : decode cX7_kept 27 = .ok (.getfield 126, 3) := by decide +kernel
theorem dX7_kept_30 : decode cX7_kept 30 = .ok (.iload 5, 2) := by decide +kernel
theorem dX7_kept_32 : decode cX7_kept 32 = .ok (.baload, 1) := by decide +kernel
theorem dX7_kept_33 : decode cX7_kept 33 = .ok (.ifCond .eq 40, 3) := by decide +kernel
theorem dX7_kept_36 : decode cX7_kept 36 = .ok (.aload_n 0, 1) := by decide +kernel
theorem dX7_kept_37 : decode cX7_kept 37 = .ok (.getfield 102, 3) := by decide +kernel
theorem dX7_kept_40 : decode cX7_kept 40 = .ok (.iload 5, 2) := by decide +kernel
theorem dX7_kept_42 : decode cX7_kept 42 = .ok (.iaload, 1) := by decide +kernel
theorem dX7_kept_43 : decode cX7_kept 43 = .ok (.iload_n 1, 1) := by decide +kernel
theorem dX7_kept_44 : decode cX7_kept 44 = .ok (.if_icmp .ne 29, 3) := by decide +kernel
theorem dX7_kept_47 : decode cX7_kept 47 = .ok (.aload_n 0, 1) := by decide +kernel
theorem dX7_kept_48 : decode cX7_kept 48 = .ok (.getfield 96, 3) := by decide +kernel
theorem dX7_kept_51 : decode cX7_kept 51 = .ok (.iload 5, 2) := by decide +kernel
theorem dX7_kept_53 : decode cX7_kept 53 = .ok (.iaload, 1) := by decide +kernel
theorem dX7_kept_54 : decode cX7_kept 54 = .ok (.iload_n 2, 1) := by decide +kernel
theorem dX7_kept_55 : decode cX7_kept 55 = .ok (.if_icmp .ne 18, 3) := by decide +kernel
theorem dX7_kept_58 : decode cX7_kept 58 = .ok (.aload_n 0, 1) := by decide +kernel
theorem dX7_kept_59 : decode cX7_kept 59 = .ok (.getfield 111, 3) := by decide +kernel
theorem dX7_kept_62 : decode cX7_kept 62 = .ok (.iload 5, 2) := by decide +kernel
theorem dX7_kept_64 : decode cX7_kept 64 = .ok (.iaload, 1) := by decide +kernel
theorem dX7_kept_65 : decode cX7_kept 65 = .ok (.iload_n 3, 1) := by decide +kernel
theorem dX7_kept_66 : decode cX7_kept 66 = .ok (.if_icmp .ne 7, 3) := by decide +kernel
theorem dX7_kept_69 : decode cX7_kept 69 = .ok (.iconst 1, 1) := by decide +kernel
theorem dX7_kept_70 : decode cX7_kept 70 = .ok (.goto 4, 3) := by decide +kernel
theorem dX7_kept_73 : decode cX7_kept 73 = .ok (.iconst 0, 1) := by decide +kernel
theorem dX7_kept_74 : decode cX7_kept 74 = .ok (.istore 6, 2) := by decide +kernel
theorem dX7_kept_76 : decode cX7_kept 76 = .ok (.iload 6, 2) := by decide +kernel
theorem dX7_kept_78 : decode cX7_kept 78 = .ok (.ifCond .eq 19, 3) := by decide +kernel
theorem dX7_kept_81 : decode cX7_kept 81 = .ok (.aload_n 0, 1) := by decide +kernel
theorem dX7_kept_82 : decode cX7_kept 82 = .ok (.iload 5, 2) := by decide +kernel
theorem dX7_kept_84 : decode cX7_kept 84 = .ok (.iload 4, 2) := by decide +kernel
theorem dX7_kept_86 : decode cX7_kept 86 = .ok (.invokevirtual 233, 3) := by decide +kernel
theorem dX7_kept_89 : decode cX7_kept 89 = .ok (.ifCond .eq 8, 3) := by decide +kernel
theorem dX7_kept_92 : decode cX7_kept 92 = .ok (.iload 5, 2) := by decide +kernel
theorem dX7_kept_94 : decode cX7_kept 94 = .ok (.goto 5, 3) := by decide +kernel
theorem dX7_kept_97 : decode cX7_kept 97 = .ok (.iload 4, 2) := by decide +kernel
theorem dX7_kept_99 : decode cX7_kept 99 = .ok (.istore 4, 2) := by decide +kernel
theorem dX7_kept_101 : decode cX7_kept 101 = .ok (.iinc 5 1, 3) := by decide +kernel
theorem dX7_kept_104 : decode cX7_kept 104 = .ok (.goto (-98), 3) := by decide +kernel
theorem dX7_kept_107 : decode cX7_kept 107 = .ok (.iload 4, 2) := by decide +kernel
theorem dX7_kept_109 : decode cX7_kept 109 = .ok (.ireturn, 1) := by decide +kernel
theorem lk_X7_kept : LK yX7_kept cX7_kept 7 (some .int) 3 := ⟨qW_at 1592 (by decide +kernel) rfl, qW_at 78 (by decide +kernel) rfl, by decide, by decide, by decide +kernel⟩
theorem im_X7_kept : Cond.instanceMethod yX7_kept ∈ qW := qW_at 1591 (by decide +kernel) rfl
theorem se_X7_kept : Cond.selects RX7 yX7_kept yX7_kept ∈ qW := qW_at 45 (by decide +kernel) rfl
def F_X7_kept (this : Nat) (its_ : Int32) (person_ : Int32) (when_ : Int32) : QX Int32 :=
  (xb (xp (-1 : Int32)) fun found_1 =>
  (xb (xp (0 : Int32)) fun k_2 =>
  (xb (xl 2000 (fun (s3 : Int32 × Int32) => (xb (xp s3.2) fun v4 => xb (xb (xp (some this)) fun v5 => xgi 8 29 v5) fun v6 => xp (decide (v4 < v6)))) (fun (s3 : Int32 × Int32) =>
  (xb (xb (xb (xb (xb (xb (xb (xb (xb (xp (some this)) fun v7 => xgr 8 31 v7) fun v8 => xb (xp s3.2) fun v9 => xai 0 v8 v9) fun v10 => xb (xp (1 : Int32)) fun v11 => xp (decide (v10 = v11))) fun v16 => if v16 then (xb (xb (xb (xp (some this)) fun v12 => xgr 8 42 v12) fun v13 => xb (xp s3.2) fun v14 => xai 1 v13 v14) fun v15 => xp (decide (¬ v15 = 0))) else xp false) fun v22 => if v22 then (xb (xb (xb (xp (some this)) fun v17 => xgr 8 34 v17) fun v18 => xb (xp s3.2) fun v19 => xai 0 v18 v19) fun v20 => xb (xp its_) fun v21 => xp (decide (v20 = v21))) else xp false) fun v28 => if v28 then (xb (xb (xb (xp (some this)) fun v23 => xgr 8 32 v23) fun v24 => xb (xp s3.2) fun v25 => xai 0 v24 v25) fun v26 => xb (xp person_) fun v27 => xp (decide (v26 = v27))) else xp false) fun v34 => if v34 then (xb (xb (xb (xp (some this)) fun v29 => xgr 8 37 v29) fun v30 => xb (xp s3.2) fun v31 => xai 0 v30 v31) fun v32 => xb (xp when_) fun v33 => xp (decide (v32 = v33))) else xp false) fun v35 => xp (b2i v35)) fun is_36 =>
  (xb (xb (xb (xb (xp is_36) fun v37 => xp (decide (¬ v37 = 0))) fun v42 => if v42 then (xb (xb (xp (some this)) fun v38 => xb (xp s3.2) fun v39 => xb (xp s3.1) fun v40 => xo 8 v38 fun q => F_X7_isLater q v39 v40) fun v41 => xp (decide (¬ v41 = 0))) else xp false) fun v43 => if v43 then (xp s3.2) else (xp s3.1)) fun found_44 =>
  (xp (found_44, (s3.2 + 1)))))) (found_1, k_2)) fun s45 =>
  (xp s45.1))))
set_option maxRecDepth 100000 in
set_option maxHeartbeats 4000000 in
theorem M_X7_kept (this : Nat) (its_ : Int32) (person_ : Int32) (when_ : Int32) : MM yX7_kept cX7_kept 7 (some .int) 1 22 0 0 encI [.ref this, .int its_, .int person_, .int when_] (F_X7_kept this its_ person_ when_) := by
  refine MM_of (env0 := [(0, va_rf (some this)), (1, .int its_), (2, .int person_), (3, .int when_)]) (by decide) (by exact Nat.le_of_ble_eq_true rfl) (by rfl) (fun k mm res X C hR hN hr hname h => ?_)
  have X : CX k cX7_kept RX7 := X
  have hT : TH k (fun e m' => res = (.error e, m')) := TH_of C
  have htr := C.2.2.2.1
  unfold F_X7_kept at h
  exact SB_go (T := fun e m' => res = (.error e, m')) (RET := fun v m' => res = (.ok v, m')) (SB_let (L_iconst (v := (-1)) X dX7_kept_0 (by decide)) (S_istore (ev := fun found_1 => [(4, .int found_1), (0, va_rf (some this)), (1, .int its_), (2, .int person_), (3, .int when_)]) X dX7_kept_1 (by rw [hN]; decide) (fun _ => rfl)) fun found_1 =>
  (SB_let (L_iconst (v := 0) X dX7_kept_3 (by decide)) (S_istore (ev := fun k_2 => [(5, .int k_2), (4, .int found_1), (0, va_rf (some this)), (1, .int its_), (2, .int person_), (3, .int when_)]) X dX7_kept_4 (by rw [hN]; decide) (fun _ => rfl)) fun k_2 =>
  (SB_seq (ST_loop (σ := Int32 × Int32) (upd := (fun (s : Int32 × Int32) => [(5, .int s.2), (4, .int s.1), (0, va_rf (some this)), (1, .int its_), (2, .int person_), (3, .int when_)])) (s0 := (found_1, k_2)) (n := 2000) (fun mm a b h => GG_sub [0, 1, 2, 3, 4, 5] rfl h)
  (fun s3 => (CE_2 wI (L_iload (x := s3.2) 0 X dX7_kept_6 rfl) (XE_1 (L_aload_n (r := (some this)) 2 X dX7_kept_8 rfl rfl) (O_gi (c := 8) (j := 29) X rfl inW7 (by decide) fl_X7_146 rfl dX7_kept_9)) (C_lt_F X dX7_kept_12 (by decide))))
  (fun s3 => (ST_post (ST_let (XE_b2i (CE_and (CE_and (CE_and (CE_and (CE_2 wI (XE_2 wR (XE_1 (L_aload_n (r := (some this)) 2 X dX7_kept_15 rfl rfl) (O_gr (c := 8) (j := 31) X rfl inW7 (by decide) fl_X7_93 rfl dX7_kept_16)) (L_iload (x := s3.2) 0 X dX7_kept_19 rfl) (O_ai X dX7_kept_21)) (L_iconst (v := 1) X dX7_kept_22 (by decide)) (C_eq_F X dX7_kept_23 (by decide))) (CE_1 (XE_2 wR (XE_1 (L_aload_n (r := (some this)) 2 X dX7_kept_26 rfl rfl) (O_gr (c := 8) (j := 42) X rfl inW7 (by decide) fl_X7_126 rfl dX7_kept_27)) (L_iload (x := s3.2) 0 X dX7_kept_30 rfl) (O_az X dX7_kept_32)) (Z_ne_F X dX7_kept_33 (by decide)))) (CE_2 wI (XE_2 wR (XE_1 (L_aload_n (r := (some this)) 2 X dX7_kept_36 rfl rfl) (O_gr (c := 8) (j := 34) X rfl inW7 (by decide) fl_X7_102 rfl dX7_kept_37)) (L_iload (x := s3.2) 0 X dX7_kept_40 rfl) (O_ai X dX7_kept_42)) (L_iload_n (x := its_) 3 X dX7_kept_43 rfl rfl) (C_eq_F X dX7_kept_44 (by decide)))) (CE_2 wI (XE_2 wR (XE_1 (L_aload_n (r := (some this)) 2 X dX7_kept_47 rfl rfl) (O_gr (c := 8) (j := 32) X rfl inW7 (by decide) fl_X7_96 rfl dX7_kept_48)) (L_iload (x := s3.2) 0 X dX7_kept_51 rfl) (O_ai X dX7_kept_53)) (L_iload_n (x := person_) 4 X dX7_kept_54 rfl rfl) (C_eq_F X dX7_kept_55 (by decide)))) (CE_2 wI (XE_2 wR (XE_1 (L_aload_n (r := (some this)) 2 X dX7_kept_58 rfl rfl) (O_gr (c := 8) (j := 37) X rfl inW7 (by decide) fl_X7_111 rfl dX7_kept_59)) (L_iload (x := s3.2) 0 X dX7_kept_62 rfl) (O_ai X dX7_kept_64)) (L_iload_n (x := when_) 5 X dX7_kept_65 rfl rfl) (C_eq_F X dX7_kept_66 (by decide)))) (S_b1 X dX7_kept_69 dX7_kept_70 (by decide)) (S_b0 X dX7_kept_73)) (S_istore (ev := fun is_36 => [(6, .int is_36), (5, .int s3.2), (4, .int s3.1), (0, va_rf (some this)), (1, .int its_), (2, .int person_), (3, .int when_)]) X dX7_kept_74 (by rw [hN]; decide) (fun _ => rfl)) fun is_36 =>
  (ST_let (XE_tern (CE_and (CE_1 (L_iload (x := is_36) 0 X dX7_kept_76 rfl) (Z_ne_F X dX7_kept_78 (by decide))) (CE_1 (XE_3 (pB := pI) wR wI (L_aload_n (r := (some this)) 3 X dX7_kept_81 rfl rfl) (L_iload (x := s3.2) 1 X dX7_kept_82 rfl) (L_iload (x := s3.1) 2 X dX7_kept_84 rfl) (fun v0 v1 v2 st mm a b hd hc hs h => g_callVo (st := st) (cI := 8) X hT htr rfl (fun q => M_X7_isLater q v1 v2) lk_X7_isLater im_X7_isLater se_X7_isLater ml_X7_233 rfl (by rw [hR]; exact ⟨Nat.le_of_ble_eq_true rfl, Nat.le_of_ble_eq_true rfl⟩) (Nat.le_trans hd (by decide)) ⟨hc, hs⟩ dX7_kept_86 h)) (Z_ne_F X dX7_kept_89 (by decide)))) (L_iload (x := s3.2) 1 X dX7_kept_92 rfl) (S_goto X dX7_kept_94 (by decide)) (L_iload (x := s3.1) 2 X dX7_kept_97 rfl)) (S_istore (ev := fun found_44 => [(4, .int found_44), (6, .int is_36), (5, .int s3.2), (0, va_rf (some this)), (1, .int its_), (2, .int person_), (3, .int when_)]) X dX7_kept_99 (by rw [hN]; decide) (fun _ => rfl)) fun found_44 =>
  (ST_pre (env' := [(5, .int (s3.2 + 1)), (4, .int found_44), (6, .int is_36), (0, va_rf (some this)), (1, .int its_), (2, .int person_), (3, .int when_)]) (S_iinc 2 X dX7_kept_101 rfl rfl (by rw [hN]; decide) rfl)
  (ST_done (upd := (fun (s : Int32 × Int32) => [(5, .int s.2), (4, .int s.1), (0, va_rf (some this)), (1, .int its_), (2, .int person_), (3, .int when_)])) (s := (found_44, (s3.2 + 1))) [0, 1, 3, 4, 5, 6] rfl)))) fun _ mm a b h => S_goto X dX7_kept_104 (by decide) [] mm a b h))) fun s45 =>
  (SB_retI X C hr dX7_kept_109 (L_iload (x := s45.1) 1 X dX7_kept_107 rfl))))) h (by rw [hR]; decide) (by rw [hR]; decide)
theorem dX7_answers_0 : decode cX7_answers 0 = .ok (.iconst (-1), 1) := by decide +kernel
theorem dX7_answers_1 : decode cX7_answers 1 = .ok (.istore 6, 2) := by decide +kernel
theorem dX7_answers_3 : decode cX7_answers 3 = .ok (.iconst 0, 1) := by decide +kernel
theorem dX7_answers_4 : decode cX7_answers 4 = .ok (.istore 7, 2) := by decide +kernel
theorem dX7_answers_6 : decode cX7_answers 6 = .ok (.iload 7, 2) := by decide +kernel
theorem dX7_answers_8 : decode cX7_answers 8 = .ok (.aload_n 0, 1) := by decide +kernel
theorem dX7_answers_9 : decode cX7_answers 9 = .ok (.getfield 146, 3) := by decide +kernel
theorem dX7_answers_12 : decode cX7_answers 12 = .ok (.if_icmp .ge 140, 3) := by decide +kernel
theorem dX7_answers_15 : decode cX7_answers 15 = .ok (.aload_n 0, 1) := by decide +kernel
theorem dX7_answers_16 : decode cX7_answers 16 = .ok (.getfield 93, 3) := by decide +kernel
theorem dX7_answers_19 : decode cX7_answers 19 = .ok (.iload 7, 2) := by decide +kernel
theorem dX7_answers_21 : decode cX7_answers 21 = .ok (.iaload, 1) := by decide +kernel
theorem dX7_answers_22 : decode cX7_answers 22 = .ok (.iconst 1, 1) := by decide +kernel
theorem dX7_answers_23 : decode cX7_answers 23 = .ok (.if_icmp .ne 51, 3) := by decide +kernel
theorem dX7_answers_26 : decode cX7_answers 26 = .ok (.aload_n 0, 1) := by decide +kernel
theorem dX7_answers_27 : decode cX7_answers 27 = .ok (.getfield 102, 3) := by decide +kernel
theorem dX7_answers_30 : decode cX7_answers 30 = .ok (.iload 7, 2) := by decide +kernel
theorem dX7_answers_32 : decode cX7_answers 32 = .ok (.iaload, 1) := by decide +kernel
theorem dX7_answers_33 : decode cX7_answers 33 = .ok (.iload_n 1, 1) := by decide +kernel
theorem dX7_answers_34 : decode cX7_answers 34 = .ok (.if_icmp .ne 40, 3) := by decide +kernel
theorem dX7_answers_37 : decode cX7_answers 37 = .ok (.aload_n 0, 1) := by decide +kernel
theorem dX7_answers_38 : decode cX7_answers 38 = .ok (.getfield 96, 3) := by decide +kernel
theorem dX7_answers_41 : decode cX7_answers 41 = .ok (.iload 7, 2) := by decide +kernel
theorem dX7_answers_43 : decode cX7_answers 43 = .ok (.iaload, 1) := by decide +kernel
theorem dX7_answers_44 : decode cX7_answers 44 = .ok (.iload_n 2, 1) := by decide +kernel
theorem dX7_answers_45 : decode cX7_answers 45 = .ok (.if_icmp .ne 29, 3) := by decide +kernel
theorem dX7_answers_48 : decode cX7_answers 48 = .ok (.aload_n 0, 1) := by decide +kernel
theorem dX7_answers_49 : decode cX7_answers 49 = .ok (.getfield 111, 3) := by decide +kernel
theorem dX7_answers_52 : decode cX7_answers 52 = .ok (.iload 7, 2) := by decide +kernel
theorem dX7_answers_54 : decode cX7_answers 54 = .ok (.iaload, 1) := by decide +kernel
theorem dX7_answers_55 : decode cX7_answers 55 = .ok (.iload_n 3, 1) := by decide +kernel
theorem dX7_answers_56 : decode cX7_answers 56 = .ok (.if_icmp .eq 14, 3) := by decide +kernel
theorem dX7_answers_59 : decode cX7_answers 59 = .ok (.aload_n 0, 1) := by decide +kernel
theorem dX7_answers_60 : decode cX7_answers 60 = .ok (.getfield 111, 3) := by decide +kernel
theorem dX7_answers_63 : decode cX7_answers 63 = .ok (.iload 7, 2) := by decide +kernel
theorem dX7_answers_65 : decode cX7_answers 65 = .ok (.iaload, 1) := by decide +kernel
theorem dX7_answers_66 : decode cX7_answers 66 = .ok (.iconst (-1), 1) := by decide +kernel
theorem dX7_answers_67 : decode cX7_answers 67 = .ok (.if_icmp .ne 7, 3) := by decide +kernel
theorem dX7_answers_70 : decode cX7_answers 70 = .ok (.iconst 1, 1) := by decide +kernel
theorem dX7_answers_71 : decode cX7_answers 71 = .ok (.goto 4, 3) := by decide +kernel
theorem dX7_answers_74 : decode cX7_answers 74 = .ok (.iconst 0, 1) := by decide +kernel
theorem dX7_answers_75 : decode cX7_answers 75 = .ok (.istore 8, 2) := by decide +kernel
theorem dX7_answers_77 : decode cX7_answers 77 = .ok (.iload 8, 2) := by decide +kernel
theorem dX7_answers_79 : decode cX7_answers 79 = .ok (.ifCond .eq 39, 3) := by decide +kernel
theorem dX7_answers_82 : decode cX7_answers 82 = .ok (.iload 5, 2) := by decide +kernel
theorem dX7_answers_84 : decode cX7_answers 84 = .ok (.ifCond .ne 13, 3) := by decide +kernel
theorem dX7_answers_87 : decode cX7_answers 87 = .ok (.aload_n 0, 1) := by decide +kernel
theorem dX7_answers_88 : decode cX7_answers 88 = .ok (.getfield 126, 3) := by decide +kernel
theorem dX7_answers_91 : decode cX7_answers 91 = .ok (.iload 7, 2) := by decide +kernel
theorem dX7_answers_93 : decode cX7_answers 93 = .ok (.baload, 1) := by decide +kernel
theorem dX7_answers_94 : decode cX7_answers 94 = .ok (.ifCond .eq 24, 3) := by decide +kernel
theorem dX7_answers_97 : decode cX7_answers 97 = .ok (.aload_n 0, 1) := by decide +kernel
theorem dX7_answers_98 : decode cX7_answers 98 = .ok (.getfield 108, 3) := by decide +kernel
theorem dX7_answers_101 : decode cX7_answers 101 = .ok (.iload 7, 2) := by decide +kernel
theorem dX7_answers_103 : decode cX7_answers 103 = .ok (.iaload, 1) := by decide +kernel
theorem dX7_answers_104 : decode cX7_answers 104 = .ok (.aload_n 0, 1) := by decide +kernel
theorem dX7_answers_105 : decode cX7_answers 105 = .ok (.iload 4, 2) := by decide +kernel
theorem dX7_answers_107 : decode cX7_answers 107 = .ok (.iload_n 3, 1) := by decide +kernel
theorem dX7_answers_108 : decode cX7_answers 108 = .ok (.invokevirtual 236, 3) := by decide +kernel
theorem dX7_answers_111 : decode cX7_answers 111 = .ok (.if_icmp .lt 7, 3) := by decide +kernel
theorem dX7_answers_114 : decode cX7_answers 114 = .ok (.iconst 1, 1) := by decide +kernel
theorem dX7_answers_115 : decode cX7_answers 115 = .ok (.goto 4, 3) := by decide +kernel
theorem dX7_answers_118 : decode cX7_answers 118 = .ok (.iconst 0, 1) := by decide +kernel
theorem dX7_answers_119 : decode cX7_answers 119 = .ok (.istore 8, 2) := by decide +kernel
theorem dX7_answers_121 : decode cX7_answers 121 = .ok (.iload 8, 2) := by decide +kernel
theorem dX7_answers_123 : decode cX7_answers 123 = .ok (.ifCond .eq 19, 3) := by decide +kernel
theorem dX7_answers_126 : decode cX7_answers 126 = .ok (.aload_n 0, 1) := by decide +kernel
theorem dX7_answers_127 : decode cX7_answers 127 = .ok (.iload 7, 2) := by decide +kernel
theorem dX7_answers_129 : decode cX7_answers 129 = .ok (.iload 6, 2) := by decide +kernel
theorem dX7_answers_131 : decode cX7_answers 131 = .ok (.invokevirtual 233, 3) := by decide +kernel
theorem dX7_answers_134 : decode cX7_answers 134 = .ok (.ifCond .eq 8, 3) := by decide +kernel
theorem dX7_answers_137 : decode cX7_answers 137 = .ok (.iload 7, 2) := by decide +kernel
theorem dX7_answers_139 : decode cX7_answers 139 = .ok (.goto 5, 3) := by decide +kernel
theorem dX7_answers_142 : decode cX7_answers 142 = .ok (.iload 6, 2) := by decide +kernel
theorem dX7_answers_144 : decode cX7_answers 144 = .ok (.istore 6, 2) := by decide +kernel
theorem dX7_answers_146 : decode cX7_answers 146 = .ok (.iinc 7 1, 3) := by decide +kernel
theorem dX7_answers_149 : decode cX7_answers 149 = .ok (.goto (-143), 3) := by decide +kernel
theorem dX7_answers_152 : decode cX7_answers 152 = .ok (.iload 6, 2) := by decide +kernel
theorem dX7_answers_154 : decode cX7_answers 154 = .ok (.iconst (-1), 1) := by decide +kernel
theorem dX7_answers_155 : decode cX7_answers 155 = .ok (.if_icmp .ne 7, 3) := by decide +kernel
theorem dX7_answers_158 : decode cX7_answers 158 = .ok (.iconst 0, 1) := by decide +kernel
theorem dX7_answers_159 : decode cX7_answers 159 = .ok (.goto 10, 3) := by decide +kernel
theorem dX7_answers_162 : decode cX7_answers 162 = .ok (.aload_n 0, 1) := by decide +kernel
theorem dX7_answers_163 : decode cX7_answers 163 = .ok (.getfield 114, 3) := by decide +kernel
theorem dX7_answers_166 : decode cX7_answers 166 = .ok (.iload 6, 2) := by decide +kernel
theorem dX7_answers_168 : decode cX7_answers 168 = .ok (.iaload, 1) := by decide +kernel
theorem dX7_answers_169 : decode cX7_answers 169 = .ok (.ireturn, 1) := by decide +kernel
theorem lk_X7_answers : LK yX7_answers cX7_answers 9 (some .int) 5 := ⟨qW_at 1776 (by decide +kernel) rfl, qW_at 78 (by decide +kernel) rfl, by decide, by decide, by decide +kernel⟩
theorem im_X7_answers : Cond.instanceMethod yX7_answers ∈ qW := qW_at 1775 (by decide +kernel) rfl
theorem se_X7_answers : Cond.selects RX7 yX7_answers yX7_answers ∈ qW := qW_at 68 (by decide +kernel) rfl
def F_X7_answers (this : Nat) (its_ : Int32) (person_ : Int32) (when_ : Int32) (by_ : Int32) (all_ : Int32) : QX Int32 :=
  (xb (xp (-1 : Int32)) fun found_1 =>
  (xb (xp (0 : Int32)) fun k_2 =>
  (xb (xl 2000 (fun (s3 : Int32 × Int32) => (xb (xp s3.2) fun v4 => xb (xb (xp (some this)) fun v5 => xgi 8 29 v5) fun v6 => xp (decide (v4 < v6)))) (fun (s3 : Int32 × Int32) =>
  (xb (xb (xb (xb (xb (xb (xb (xb (xp (some this)) fun v7 => xgr 8 31 v7) fun v8 => xb (xp s3.2) fun v9 => xai 0 v8 v9) fun v10 => xb (xp (1 : Int32)) fun v11 => xp (decide (v10 = v11))) fun v17 => if v17 then (xb (xb (xb (xp (some this)) fun v12 => xgr 8 34 v12) fun v13 => xb (xp s3.2) fun v14 => xai 0 v13 v14) fun v15 => xb (xp its_) fun v16 => xp (decide (v15 = v16))) else xp false) fun v23 => if v23 then (xb (xb (xb (xp (some this)) fun v18 => xgr 8 32 v18) fun v19 => xb (xp s3.2) fun v20 => xai 0 v19 v20) fun v21 => xb (xp person_) fun v22 => xp (decide (v21 = v22))) else xp false) fun v35 => if v35 then (xb (xb (xb (xb (xp (some this)) fun v24 => xgr 8 37 v24) fun v25 => xb (xp s3.2) fun v26 => xai 0 v25 v26) fun v27 => xb (xp when_) fun v28 => xp (decide (v27 = v28))) fun v34 => if v34 then xp true else (xb (xb (xb (xp (some this)) fun v29 => xgr 8 37 v29) fun v30 => xb (xp s3.2) fun v31 => xai 0 v30 v31) fun v32 => xb (xp (-1 : Int32)) fun v33 => xp (decide (v32 = v33)))) else xp false) fun v36 => xp (b2i v36)) fun is_37 =>
  (xb (xb (xb (xb (xb (xp is_37) fun v38 => xp (decide (¬ v38 = 0))) fun v45 => if v45 then (xb (xb (xp all_) fun v39 => xp (decide (¬ v39 = 0))) fun v44 => if v44 then xp true else (xb (xb (xb (xp (some this)) fun v40 => xgr 8 42 v40) fun v41 => xb (xp s3.2) fun v42 => xai 1 v41 v42) fun v43 => xp (decide (¬ v43 = 0)))) else xp false) fun v54 => if v54 then (xb (xb (xb (xp (some this)) fun v46 => xgr 8 36 v46) fun v47 => xb (xp s3.2) fun v48 => xai 0 v47 v48) fun v49 => xb (xb (xp (some this)) fun v50 => xb (xp by_) fun v51 => xb (xp when_) fun v52 => xo 8 v50 fun q => F_X7_stand q v51 v52) fun v53 => xp (decide (v53 ≤ v49))) else xp false) fun v55 => xp (b2i v55)) fun is_56 =>
  (xb (xb (xb (xb (xp is_56) fun v57 => xp (decide (¬ v57 = 0))) fun v62 => if v62 then (xb (xb (xp (some this)) fun v58 => xb (xp s3.2) fun v59 => xb (xp s3.1) fun v60 => xo 8 v58 fun q => F_X7_isLater q v59 v60) fun v61 => xp (decide (¬ v61 = 0))) else xp false) fun v63 => if v63 then (xp s3.2) else (xp s3.1)) fun found_64 =>
  (xp (found_64, (s3.2 + 1))))))) (found_1, k_2)) fun s65 =>
  (xb (xb (xp s65.1) fun v66 => xb (xp (-1 : Int32)) fun v67 => xp (decide (v66 = v67))) fun v71 => if v71 then (xp (0 : Int32)) else (xb (xb (xp (some this)) fun v68 => xgr 8 38 v68) fun v69 => xb (xp s65.1) fun v70 => xai 0 v69 v70)))))
set_option maxRecDepth 100000 in
set_option maxHeartbeats 4000000 in
theorem M_X7_answers (this : Nat) (its_ : Int32) (person_ : Int32) (when_ : Int32) (by_ : Int32) (all_ : Int32) : MM yX7_answers cX7_answers 9 (some .int) 1 22 0 0 encI [.ref this, .int its_, .int person_, .int when_, .int by_, .int all_] (F_X7_answers this its_ person_ when_ by_ all_) := by
  refine MM_of (env0 := [(0, va_rf (some this)), (1, .int its_), (2, .int person_), (3, .int when_), (4, .int by_), (5, .int all_)]) (by decide) (by exact Nat.le_of_ble_eq_true rfl) (by rfl) (fun k mm res X C hR hN hr hname h => ?_)
  have X : CX k cX7_answers RX7 := X
  have hT : TH k (fun e m' => res = (.error e, m')) := TH_of C
  have htr := C.2.2.2.1
  unfold F_X7_answers at h
  exact SB_go (T := fun e m' => res = (.error e, m')) (RET := fun v m' => res = (.ok v, m')) (SB_let (L_iconst (v := (-1)) X dX7_answers_0 (by decide)) (S_istore (ev := fun found_1 => [(6, .int found_1), (0, va_rf (some this)), (1, .int its_), (2, .int person_), (3, .int when_), (4, .int by_), (5, .int all_)]) X dX7_answers_1 (by rw [hN]; decide) (fun _ => rfl)) fun found_1 =>
  (SB_let (L_iconst (v := 0) X dX7_answers_3 (by decide)) (S_istore (ev := fun k_2 => [(7, .int k_2), (6, .int found_1), (0, va_rf (some this)), (1, .int its_), (2, .int person_), (3, .int when_), (4, .int by_), (5, .int all_)]) X dX7_answers_4 (by rw [hN]; decide) (fun _ => rfl)) fun k_2 =>
  (SB_seq (ST_loop (σ := Int32 × Int32) (upd := (fun (s : Int32 × Int32) => [(7, .int s.2), (6, .int s.1), (0, va_rf (some this)), (1, .int its_), (2, .int person_), (3, .int when_), (4, .int by_), (5, .int all_)])) (s0 := (found_1, k_2)) (n := 2000) (fun mm a b h => GG_sub [0, 1, 2, 3, 4, 5, 6, 7] rfl h)
  (fun s3 => (CE_2 wI (L_iload (x := s3.2) 0 X dX7_answers_6 rfl) (XE_1 (L_aload_n (r := (some this)) 2 X dX7_answers_8 rfl rfl) (O_gi (c := 8) (j := 29) X rfl inW7 (by decide) fl_X7_146 rfl dX7_answers_9)) (C_lt_F X dX7_answers_12 (by decide))))
  (fun s3 => (ST_post (ST_let (XE_b2i (CE_and (CE_and (CE_and (CE_2 wI (XE_2 wR (XE_1 (L_aload_n (r := (some this)) 2 X dX7_answers_15 rfl rfl) (O_gr (c := 8) (j := 31) X rfl inW7 (by decide) fl_X7_93 rfl dX7_answers_16)) (L_iload (x := s3.2) 0 X dX7_answers_19 rfl) (O_ai X dX7_answers_21)) (L_iconst (v := 1) X dX7_answers_22 (by decide)) (C_eq_F X dX7_answers_23 (by decide))) (CE_2 wI (XE_2 wR (XE_1 (L_aload_n (r := (some this)) 2 X dX7_answers_26 rfl rfl) (O_gr (c := 8) (j := 34) X rfl inW7 (by decide) fl_X7_102 rfl dX7_answers_27)) (L_iload (x := s3.2) 0 X dX7_answers_30 rfl) (O_ai X dX7_answers_32)) (L_iload_n (x := its_) 3 X dX7_answers_33 rfl rfl) (C_eq_F X dX7_answers_34 (by decide)))) (CE_2 wI (XE_2 wR (XE_1 (L_aload_n (r := (some this)) 2 X dX7_answers_37 rfl rfl) (O_gr (c := 8) (j := 32) X rfl inW7 (by decide) fl_X7_96 rfl dX7_answers_38)) (L_iload (x := s3.2) 0 X dX7_answers_41 rfl) (O_ai X dX7_answers_43)) (L_iload_n (x := person_) 4 X dX7_answers_44 rfl rfl) (C_eq_F X dX7_answers_45 (by decide)))) (CE_or (CE_2 wI (XE_2 wR (XE_1 (L_aload_n (r := (some this)) 2 X dX7_answers_48 rfl rfl) (O_gr (c := 8) (j := 37) X rfl inW7 (by decide) fl_X7_111 rfl dX7_answers_49)) (L_iload (x := s3.2) 0 X dX7_answers_52 rfl) (O_ai X dX7_answers_54)) (L_iload_n (x := when_) 5 X dX7_answers_55 rfl rfl) (C_eq_T X dX7_answers_56 (by decide))) (CE_2 wI (XE_2 wR (XE_1 (L_aload_n (r := (some this)) 2 X dX7_answers_59 rfl rfl) (O_gr (c := 8) (j := 37) X rfl inW7 (by decide) fl_X7_111 rfl dX7_answers_60)) (L_iload (x := s3.2) 0 X dX7_answers_63 rfl) (O_ai X dX7_answers_65)) (L_iconst (v := (-1)) X dX7_answers_66 (by decide)) (C_eq_F X dX7_answers_67 (by decide))))) (S_b1 X dX7_answers_70 dX7_answers_71 (by decide)) (S_b0 X dX7_answers_74)) (S_istore (ev := fun is_37 => [(8, .int is_37), (7, .int s3.2), (6, .int s3.1), (0, va_rf (some this)), (1, .int its_), (2, .int person_), (3, .int when_), (4, .int by_), (5, .int all_)]) X dX7_answers_75 (by rw [hN]; decide) (fun _ => rfl)) fun is_37 =>
  (ST_let (XE_b2i (CE_and (CE_and (CE_1 (L_iload (x := is_37) 0 X dX7_answers_77 rfl) (Z_ne_F X dX7_answers_79 (by decide))) (CE_or (CE_1 (L_iload (x := all_) 8 X dX7_answers_82 rfl) (Z_ne_T X dX7_answers_84 (by decide))) (CE_1 (XE_2 wR (XE_1 (L_aload_n (r := (some this)) 3 X dX7_answers_87 rfl rfl) (O_gr (c := 8) (j := 42) X rfl inW7 (by decide) fl_X7_126 rfl dX7_answers_88)) (L_iload (x := s3.2) 1 X dX7_answers_91 rfl) (O_az X dX7_answers_93)) (Z_ne_F X dX7_answers_94 (by decide))))) (CE_2 wI (XE_2 wR (XE_1 (L_aload_n (r := (some this)) 3 X dX7_answers_97 rfl rfl) (O_gr (c := 8) (j := 36) X rfl inW7 (by decide) fl_X7_108 rfl dX7_answers_98)) (L_iload (x := s3.2) 1 X dX7_answers_101 rfl) (O_ai X dX7_answers_103)) (XE_3 (pB := pI) wR wI (L_aload_n (r := (some this)) 3 X dX7_answers_104 rfl rfl) (L_iload (x := by_) 7 X dX7_answers_105 rfl) (L_iload_n (x := when_) 6 X dX7_answers_107 rfl rfl) (fun v0 v1 v2 st mm a b hd hc hs h => g_callVo (st := st) (cI := 8) X hT htr rfl (fun q => M_X7_stand q v1 v2) lk_X7_stand im_X7_stand se_X7_stand ml_X7_236 rfl (by rw [hR]; exact ⟨Nat.le_of_ble_eq_true rfl, Nat.le_of_ble_eq_true rfl⟩) (Nat.le_trans hd (by decide)) ⟨hc, hs⟩ dX7_answers_108 h)) (C_ge_F X dX7_answers_111 (by decide)))) (S_b1 X dX7_answers_114 dX7_answers_115 (by decide)) (S_b0 X dX7_answers_118)) (S_istore (ev := fun is_56 => [(8, .int is_56), (7, .int s3.2), (6, .int s3.1), (0, va_rf (some this)), (1, .int its_), (2, .int person_), (3, .int when_), (4, .int by_), (5, .int all_)]) X dX7_answers_119 (by rw [hN]; decide) (fun _ => rfl)) fun is_56 =>
  (ST_let (XE_tern (CE_and (CE_1 (L_iload (x := is_56) 0 X dX7_answers_121 rfl) (Z_ne_F X dX7_answers_123 (by decide))) (CE_1 (XE_3 (pB := pI) wR wI (L_aload_n (r := (some this)) 3 X dX7_answers_126 rfl rfl) (L_iload (x := s3.2) 1 X dX7_answers_127 rfl) (L_iload (x := s3.1) 2 X dX7_answers_129 rfl) (fun v0 v1 v2 st mm a b hd hc hs h => g_callVo (st := st) (cI := 8) X hT htr rfl (fun q => M_X7_isLater q v1 v2) lk_X7_isLater im_X7_isLater se_X7_isLater ml_X7_233 rfl (by rw [hR]; exact ⟨Nat.le_of_ble_eq_true rfl, Nat.le_of_ble_eq_true rfl⟩) (Nat.le_trans hd (by decide)) ⟨hc, hs⟩ dX7_answers_131 h)) (Z_ne_F X dX7_answers_134 (by decide)))) (L_iload (x := s3.2) 1 X dX7_answers_137 rfl) (S_goto X dX7_answers_139 (by decide)) (L_iload (x := s3.1) 2 X dX7_answers_142 rfl)) (S_istore (ev := fun found_64 => [(6, .int found_64), (8, .int is_56), (7, .int s3.2), (0, va_rf (some this)), (1, .int its_), (2, .int person_), (3, .int when_), (4, .int by_), (5, .int all_)]) X dX7_answers_144 (by rw [hN]; decide) (fun _ => rfl)) fun found_64 =>
  (ST_pre (env' := [(7, .int (s3.2 + 1)), (6, .int found_64), (8, .int is_56), (0, va_rf (some this)), (1, .int its_), (2, .int person_), (3, .int when_), (4, .int by_), (5, .int all_)]) (S_iinc 2 X dX7_answers_146 rfl rfl (by rw [hN]; decide) rfl)
  (ST_done (upd := (fun (s : Int32 × Int32) => [(7, .int s.2), (6, .int s.1), (0, va_rf (some this)), (1, .int its_), (2, .int person_), (3, .int when_), (4, .int by_), (5, .int all_)])) (s := (found_64, (s3.2 + 1))) [0, 1, 3, 4, 5, 6, 7, 8] rfl))))) fun _ mm a b h => S_goto X dX7_answers_149 (by decide) [] mm a b h))) fun s65 =>
  (SB_retI X C hr dX7_answers_169 (XE_tern (CE_2 wI (L_iload (x := s65.1) 1 X dX7_answers_152 rfl) (L_iconst (v := (-1)) X dX7_answers_154 (by decide)) (C_eq_F X dX7_answers_155 (by decide))) (L_iconst (v := 0) X dX7_answers_158 (by decide)) (S_goto X dX7_answers_159 (by decide)) (XE_2 wR (XE_1 (L_aload_n (r := (some this)) 2 X dX7_answers_162 rfl rfl) (O_gr (c := 8) (j := 38) X rfl inW7 (by decide) fl_X7_114 rfl dX7_answers_163)) (L_iload (x := s65.1) 1 X dX7_answers_166 rfl) (O_ai X dX7_answers_168))))))) h (by rw [hR]; decide) (by rw [hR]; decide)
theorem dX7_asked_0 : decode cX7_asked 0 = .ok (.aload_n 0, 1) := by decide +kernel
theorem dX7_asked_1 : decode cX7_asked 1 = .ok (.getfield 56, 3) := by decide +kernel
theorem dX7_asked_4 : decode cX7_asked 4 = .ok (.aload_n 0, 1) := by decide +kernel
theorem dX7_asked_5 : decode cX7_asked 5 = .ok (.getfield 22, 3) := by decide +kernel
theorem dX7_asked_8 : decode cX7_asked 8 = .ok (.iload_n 1, 1) := by decide +kernel
theorem dX7_asked_9 : decode cX7_asked 9 = .ok (.iaload, 1) := by decide +kernel
theorem dX7_asked_10 : decode cX7_asked 10 = .ok (.iaload, 1) := by decide +kernel
theorem dX7_asked_11 : decode cX7_asked 11 = .ok (.istore_n 2, 1) := by decide +kernel
theorem dX7_asked_12 : decode cX7_asked 12 = .ok (.iconst 0, 1) := by decide +kernel
theorem dX7_asked_13 : decode cX7_asked 13 = .ok (.istore_n 3, 1) := by decide +kernel
theorem dX7_asked_14 : decode cX7_asked 14 = .ok (.iload_n 3, 1) := by decide +kernel
theorem dX7_asked_15 : decode cX7_asked 15 = .ok (.iconst 5, 1) := by decide +kernel
theorem dX7_asked_16 : decode cX7_asked 16 = .ok (.if_icmp .ge 117, 3) := by decide +kernel
theorem dX7_asked_19 : decode cX7_asked 19 = .ok (.iconst 0, 1) := by decide +kernel
theorem dX7_asked_20 : decode cX7_asked 20 = .ok (.istore 4, 2) := by decide +kernel
theorem dX7_asked_22 : decode cX7_asked 22 = .ok (.iload 4, 2) := by decide +kernel
theorem dX7_asked_24 : decode cX7_asked 24 = .ok (.iconst 5, 1) := by decide +kernel
theorem dX7_asked_25 : decode cX7_asked 25 = .ok (.if_icmp .ge 102, 3) := by decide +kernel
theorem dX7_asked_28 : decode cX7_asked 28 = .ok (.iload_n 2, 1) := by decide +kernel
theorem dX7_asked_29 : decode cX7_asked 29 = .ok (.iload 4, 2) := by decide +kernel
theorem dX7_asked_31 : decode cX7_asked 31 = .ok (.ishr, 1) := by decide +kernel
theorem dX7_asked_32 : decode cX7_asked 32 = .ok (.iconst 1, 1) := by decide +kernel
theorem dX7_asked_33 : decode cX7_asked 33 = .ok (.iand, 1) := by decide +kernel
theorem dX7_asked_34 : decode cX7_asked 34 = .ok (.iconst 1, 1) := by decide +kernel
theorem dX7_asked_35 : decode cX7_asked 35 = .ok (.if_icmp .ne 14, 3) := by decide +kernel
theorem dX7_asked_38 : decode cX7_asked 38 = .ok (.aload_n 0, 1) := by decide +kernel
theorem dX7_asked_39 : decode cX7_asked 39 = .ok (.iload_n 1, 1) := by decide +kernel
theorem dX7_asked_40 : decode cX7_asked 40 = .ok (.iload 4, 2) := by decide +kernel
theorem dX7_asked_42 : decode cX7_asked 42 = .ok (.iconst (-1), 1) := by decide +kernel
theorem dX7_asked_43 : decode cX7_asked 43 = .ok (.invokevirtual 239, 3) := by decide +kernel
theorem dX7_asked_46 : decode cX7_asked 46 = .ok (.goto 4, 3) := by decide +kernel
theorem dX7_asked_49 : decode cX7_asked 49 = .ok (.iconst (-1), 1) := by decide +kernel
theorem dX7_asked_50 : decode cX7_asked 50 = .ok (.istore 5, 2) := by decide +kernel
theorem dX7_asked_52 : decode cX7_asked 52 = .ok (.iload 5, 2) := by decide +kernel
theorem dX7_asked_54 : decode cX7_asked 54 = .ok (.iconst (-1), 1) := by decide +kernel
theorem dX7_asked_55 : decode cX7_asked 55 = .ok (.if_icmp .eq 42, 3) := by decide +kernel
theorem dX7_asked_58 : decode cX7_asked 58 = .ok (.aload_n 0, 1) := by decide +kernel
theorem dX7_asked_59 : decode cX7_asked 59 = .ok (.getfield 114, 3) := by decide +kernel
theorem dX7_asked_62 : decode cX7_asked 62 = .ok (.iload 5, 2) := by decide +kernel
theorem dX7_asked_64 : decode cX7_asked 64 = .ok (.iaload, 1) := by decide +kernel
theorem dX7_asked_65 : decode cX7_asked 65 = .ok (.iconst 4, 1) := by decide +kernel
theorem dX7_asked_66 : decode cX7_asked 66 = .ok (.if_icmp .ne 31, 3) := by decide +kernel
theorem dX7_asked_69 : decode cX7_asked 69 = .ok (.aload_n 0, 1) := by decide +kernel
theorem dX7_asked_70 : decode cX7_asked 70 = .ok (.getfield 59, 3) := by decide +kernel
theorem dX7_asked_73 : decode cX7_asked 73 = .ok (.aload_n 0, 1) := by decide +kernel
theorem dX7_asked_74 : decode cX7_asked 74 = .ok (.getfield 22, 3) := by decide +kernel
theorem dX7_asked_77 : decode cX7_asked 77 = .ok (.iload_n 1, 1) := by decide +kernel
theorem dX7_asked_78 : decode cX7_asked 78 = .ok (.iaload, 1) := by decide +kernel
theorem dX7_asked_79 : decode cX7_asked 79 = .ok (.iaload, 1) := by decide +kernel
theorem dX7_asked_80 : decode cX7_asked 80 = .ok (.aload_n 0, 1) := by decide +kernel
theorem dX7_asked_81 : decode cX7_asked 81 = .ok (.getfield 120, 3) := by decide +kernel
theorem dX7_asked_84 : decode cX7_asked 84 = .ok (.iload 5, 2) := by decide +kernel
theorem dX7_asked_86 : decode cX7_asked 86 = .ok (.iaload, 1) := by decide +kernel
theorem dX7_asked_87 : decode cX7_asked 87 = .ok (.ishr, 1) := by decide +kernel
theorem dX7_asked_88 : decode cX7_asked 88 = .ok (.iconst 1, 1) := by decide +kernel
theorem dX7_asked_89 : decode cX7_asked 89 = .ok (.iand, 1) := by decide +kernel
theorem dX7_asked_90 : decode cX7_asked 90 = .ok (.ifCond .ne 7, 3) := by decide +kernel
theorem dX7_asked_93 : decode cX7_asked 93 = .ok (.iconst 1, 1) := by decide +kernel
theorem dX7_asked_94 : decode cX7_asked 94 = .ok (.goto 4, 3) := by decide +kernel
theorem dX7_asked_97 : decode cX7_asked 97 = .ok (.iconst 0, 1) := by decide +kernel
theorem dX7_asked_98 : decode cX7_asked 98 = .ok (.istore 6, 2) := by decide +kernel
theorem dX7_asked_100 : decode cX7_asked 100 = .ok (.iload_n 2, 1) := by decide +kernel
theorem dX7_asked_101 : decode cX7_asked 101 = .ok (.iload 6, 2) := by decide +kernel
theorem dX7_asked_103 : decode cX7_asked 103 = .ok (.ifCond .eq 15, 3) := by decide +kernel
theorem dX7_asked_106 : decode cX7_asked 106 = .ok (.iconst 1, 1) := by decide +kernel
theorem dX7_asked_107 : decode cX7_asked 107 = .ok (.aload_n 0, 1) := by decide +kernel
theorem dX7_asked_108 : decode cX7_asked 108 = .ok (.getfield 120, 3) := by decide +kernel
theorem dX7_asked_111 : decode cX7_asked 111 = .ok (.iload 5, 2) := by decide +kernel
theorem dX7_asked_113 : decode cX7_asked 113 = .ok (.iaload, 1) := by decide +kernel
theorem dX7_asked_114 : decode cX7_asked 114 = .ok (.ishl, 1) := by decide +kernel
theorem dX7_asked_115 : decode cX7_asked 115 = .ok (.goto 4, 3) := by decide +kernel
theorem dX7_asked_118 : decode cX7_asked 118 = .ok (.iconst 0, 1) := by decide +kernel
theorem dX7_asked_119 : decode cX7_asked 119 = .ok (.ior, 1) := by decide +kernel
theorem dX7_asked_120 : decode cX7_asked 120 = .ok (.istore_n 2, 1) := by decide +kernel
theorem dX7_asked_121 : decode cX7_asked 121 = .ok (.iinc 4 1, 3) := by decide +kernel
theorem dX7_asked_124 : decode cX7_asked 124 = .ok (.goto (-102), 3) := by decide +kernel
theorem dX7_asked_127 : decode cX7_asked 127 = .ok (.iinc 3 1, 3) := by decide +kernel
theorem dX7_asked_130 : decode cX7_asked 130 = .ok (.goto (-116), 3) := by decide +kernel
theorem dX7_asked_133 : decode cX7_asked 133 = .ok (.iload_n 2, 1) := by decide +kernel
theorem dX7_asked_134 : decode cX7_asked 134 = .ok (.ireturn, 1) := by decide +kernel
theorem lk_X7_asked : LK yX7_asked cX7_asked 7 (some .int) 1 := ⟨qW_at 1588 (by decide +kernel) rfl, qW_at 78 (by decide +kernel) rfl, by decide, by decide, by decide +kernel⟩
theorem im_X7_asked : Cond.instanceMethod yX7_asked ∈ qW := qW_at 1587 (by decide +kernel) rfl
theorem se_X7_asked : Cond.selects RX7 yX7_asked yX7_asked ∈ qW := qW_at 44 (by decide +kernel) rfl
def F_X7_asked (this : Nat) (its_ : Int32) : QX Int32 :=
  (xb (xb (xb (xp (some this)) fun v1 => xgr 8 17 v1) fun v5 => xb (xb (xb (xp (some this)) fun v2 => xgr 8 5 v2) fun v3 => xb (xp its_) fun v4 => xai 0 v3 v4) fun v6 => xai 0 v5 v6) fun set_7 =>
  (xb (xp (0 : Int32)) fun round_8 =>
  (xb (xl 2000 (fun (s9 : Int32 × Int32) => (xb (xp s9.2) fun v10 => xb (xp (5 : Int32)) fun v11 => xp (decide (v10 < v11)))) (fun (s9 : Int32 × Int32) =>
  (xb (xp (0 : Int32)) fun k_12 =>
  (xb (xl 2000 (fun (s13 : Int32 × Int32) => (xb (xp s13.2) fun v14 => xb (xp (5 : Int32)) fun v15 => xp (decide (v14 < v15)))) (fun (s13 : Int32 × Int32) =>
  (xb (xb (xb (xb (xb (xp s13.1) fun v16 => xb (xp s13.2) fun v17 => (xp (v16 >>> (v17 &&& 31)))) fun v18 => xb (xp (1 : Int32)) fun v19 => (xp (v18 &&& v19))) fun v20 => xb (xp (1 : Int32)) fun v21 => xp (decide (v20 = v21))) fun v26 => if v26 then (xb (xp (some this)) fun v22 => xb (xp its_) fun v23 => xb (xp s13.2) fun v24 => xb (xp (-1 : Int32)) fun v25 => xo 8 v22 fun q => F_X7_kept q v23 v24 v25) else (xp (-1 : Int32))) fun by_27 =>
  (xb (xb (xb (xb (xb (xp by_27) fun v28 => xb (xp (-1 : Int32)) fun v29 => xp (decide (¬ v28 = v29))) fun v35 => if v35 then (xb (xb (xb (xp (some this)) fun v30 => xgr 8 38 v30) fun v31 => xb (xp by_27) fun v32 => xai 0 v31 v32) fun v33 => xb (xp (4 : Int32)) fun v34 => xp (decide (v33 = v34))) else xp false) fun v50 => if v50 then (xb (xb (xb (xb (xb (xp (some this)) fun v36 => xgr 8 18 v36) fun v40 => xb (xb (xb (xp (some this)) fun v37 => xgr 8 5 v37) fun v38 => xb (xp its_) fun v39 => xai 0 v38 v39) fun v41 => xai 0 v40 v41) fun v45 => xb (xb (xb (xp (some this)) fun v42 => xgr 8 40 v42) fun v43 => xb (xp by_27) fun v44 => xai 0 v43 v44) fun v46 => (xp (v45 >>> (v46 &&& 31)))) fun v47 => xb (xp (1 : Int32)) fun v48 => (xp (v47 &&& v48))) fun v49 => xp (decide (v49 = 0))) else xp false) fun v51 => xp (b2i v51)) fun is_52 =>
  (xb (xb (xp s13.1) fun v60 => xb (xb (xb (xp is_52) fun v53 => xp (decide (¬ v53 = 0))) fun v59 => if v59 then (xb (xp (1 : Int32)) fun v57 => xb (xb (xb (xp (some this)) fun v54 => xgr 8 40 v54) fun v55 => xb (xp by_27) fun v56 => xai 0 v55 v56) fun v58 => (xp (v57 <<< (v58 &&& 31)))) else (xp (0 : Int32))) fun v61 => (xp (v60 ||| v61))) fun set_62 =>
  (xp (set_62, (s13.2 + 1))))))) (s9.1, k_12)) fun s63 =>
  (xp (s63.1, (s9.2 + 1)))))) (set_7, round_8)) fun s64 =>
  (xp s64.1))))
set_option maxRecDepth 100000 in
set_option maxHeartbeats 4000000 in
theorem M_X7_asked (this : Nat) (its_ : Int32) : MM yX7_asked cX7_asked 7 (some .int) 2 48 0 0 encI [.ref this, .int its_] (F_X7_asked this its_) := by
  refine MM_of (env0 := [(0, va_rf (some this)), (1, .int its_)]) (by decide) (by exact Nat.le_of_ble_eq_true rfl) (by rfl) (fun k mm res X C hR hN hr hname h => ?_)
  have X : CX k cX7_asked RX7 := X
  have hT : TH k (fun e m' => res = (.error e, m')) := TH_of C
  have htr := C.2.2.2.1
  unfold F_X7_asked at h
  exact SB_go (T := fun e m' => res = (.error e, m')) (RET := fun v m' => res = (.ok v, m')) (SB_let (XE_2 wR (XE_1 (L_aload_n (r := (some this)) 0 X dX7_asked_0 rfl rfl) (O_gr (c := 8) (j := 17) X rfl inW7 (by decide) fl_X7_56 rfl dX7_asked_1)) (XE_2 wR (XE_1 (L_aload_n (r := (some this)) 0 X dX7_asked_4 rfl rfl) (O_gr (c := 8) (j := 5) X rfl inW7 (by decide) fl_X7_22 rfl dX7_asked_5)) (L_iload_n (x := its_) 1 X dX7_asked_8 rfl rfl) (O_ai X dX7_asked_9)) (O_ai X dX7_asked_10)) (S_istore_n (ev := fun set_7 => [(2, .int set_7), (0, va_rf (some this)), (1, .int its_)]) X dX7_asked_11 rfl (by rw [hN]; decide) (fun _ => rfl)) fun set_7 =>
  (SB_let (L_iconst (v := 0) X dX7_asked_12 (by decide)) (S_istore_n (ev := fun round_8 => [(3, .int round_8), (2, .int set_7), (0, va_rf (some this)), (1, .int its_)]) X dX7_asked_13 rfl (by rw [hN]; decide) (fun _ => rfl)) fun round_8 =>
  (SB_seq (ST_loop (σ := Int32 × Int32) (upd := (fun (s : Int32 × Int32) => [(3, .int s.2), (2, .int s.1), (0, va_rf (some this)), (1, .int its_)])) (s0 := (set_7, round_8)) (n := 2000) (fun mm a b h => GG_sub [0, 1, 2, 3] rfl h)
  (fun s9 => (CE_2 wI (L_iload_n (x := s9.2) 0 X dX7_asked_14 rfl rfl) (L_iconst (v := 5) X dX7_asked_15 (by decide)) (C_lt_F X dX7_asked_16 (by decide))))
  (fun s9 => (ST_post (ST_let (L_iconst (v := 0) X dX7_asked_19 (by decide)) (S_istore (ev := fun k_12 => [(4, .int k_12), (3, .int s9.2), (2, .int s9.1), (0, va_rf (some this)), (1, .int its_)]) X dX7_asked_20 (by rw [hN]; decide) (fun _ => rfl)) fun k_12 =>
  (ST_seq (ST_loop (σ := Int32 × Int32) (upd := (fun (s : Int32 × Int32) => [(4, .int s.2), (3, .int s9.2), (2, .int s.1), (0, va_rf (some this)), (1, .int its_)])) (s0 := (s9.1, k_12)) (n := 2000) (fun mm a b h => GG_sub [0, 1, 2, 3, 4] rfl h)
  (fun s13 => (CE_2 wI (L_iload (x := s13.2) 0 X dX7_asked_22 rfl) (L_iconst (v := 5) X dX7_asked_24 (by decide)) (C_lt_F X dX7_asked_25 (by decide))))
  (fun s13 => (ST_post (ST_let (XE_tern (CE_2 wI (XE_2 wI (XE_2 wI (L_iload_n (x := s13.1) 2 X dX7_asked_28 rfl rfl) (L_iload (x := s13.2) 0 X dX7_asked_29 rfl) (O_ishr X dX7_asked_31)) (L_iconst (v := 1) X dX7_asked_32 (by decide)) (O_iand X dX7_asked_33)) (L_iconst (v := 1) X dX7_asked_34 (by decide)) (C_eq_F X dX7_asked_35 (by decide))) (XE_4 (pB := pI) wR wI wI (L_aload_n (r := (some this)) 3 X dX7_asked_38 rfl rfl) (L_iload_n (x := its_) 4 X dX7_asked_39 rfl rfl) (L_iload (x := s13.2) 0 X dX7_asked_40 rfl) (L_iconst (v := (-1)) X dX7_asked_42 (by decide)) (fun v0 v1 v2 v3 st mm a b hd hc hs h => g_callVo (st := st) (cI := 8) X hT htr rfl (fun q => M_X7_kept q v1 v2 v3) lk_X7_kept im_X7_kept se_X7_kept ml_X7_239 rfl (by rw [hR]; exact ⟨Nat.le_of_ble_eq_true rfl, Nat.le_of_ble_eq_true rfl⟩) (Nat.le_trans hd (by decide)) ⟨hc, hs⟩ dX7_asked_43 h)) (S_goto X dX7_asked_46 (by decide)) (L_iconst (v := (-1)) X dX7_asked_49 (by decide))) (S_istore (ev := fun by_27 => [(5, .int by_27), (4, .int s13.2), (3, .int s9.2), (2, .int s13.1), (0, va_rf (some this)), (1, .int its_)]) X dX7_asked_50 (by rw [hN]; decide) (fun _ => rfl)) fun by_27 =>
  (ST_let (XE_b2i (CE_and (CE_and (CE_2 wI (L_iload (x := by_27) 0 X dX7_asked_52 rfl) (L_iconst (v := (-1)) X dX7_asked_54 (by decide)) (C_ne_F X dX7_asked_55 (by decide))) (CE_2 wI (XE_2 wR (XE_1 (L_aload_n (r := (some this)) 4 X dX7_asked_58 rfl rfl) (O_gr (c := 8) (j := 38) X rfl inW7 (by decide) fl_X7_114 rfl dX7_asked_59)) (L_iload (x := by_27) 0 X dX7_asked_62 rfl) (O_ai X dX7_asked_64)) (L_iconst (v := 4) X dX7_asked_65 (by decide)) (C_eq_F X dX7_asked_66 (by decide)))) (CE_1 (XE_2 wI (XE_2 wI (XE_2 wR (XE_1 (L_aload_n (r := (some this)) 4 X dX7_asked_69 rfl rfl) (O_gr (c := 8) (j := 18) X rfl inW7 (by decide) fl_X7_59 rfl dX7_asked_70)) (XE_2 wR (XE_1 (L_aload_n (r := (some this)) 4 X dX7_asked_73 rfl rfl) (O_gr (c := 8) (j := 5) X rfl inW7 (by decide) fl_X7_22 rfl dX7_asked_74)) (L_iload_n (x := its_) 5 X dX7_asked_77 rfl rfl) (O_ai X dX7_asked_78)) (O_ai X dX7_asked_79)) (XE_2 wR (XE_1 (L_aload_n (r := (some this)) 4 X dX7_asked_80 rfl rfl) (O_gr (c := 8) (j := 40) X rfl inW7 (by decide) fl_X7_120 rfl dX7_asked_81)) (L_iload (x := by_27) 0 X dX7_asked_84 rfl) (O_ai X dX7_asked_86)) (O_ishr X dX7_asked_87)) (L_iconst (v := 1) X dX7_asked_88 (by decide)) (O_iand X dX7_asked_89)) (Z_eq_F X dX7_asked_90 (by decide)))) (S_b1 X dX7_asked_93 dX7_asked_94 (by decide)) (S_b0 X dX7_asked_97)) (S_istore (ev := fun is_52 => [(6, .int is_52), (5, .int by_27), (4, .int s13.2), (3, .int s9.2), (2, .int s13.1), (0, va_rf (some this)), (1, .int its_)]) X dX7_asked_98 (by rw [hN]; decide) (fun _ => rfl)) fun is_52 =>
  (ST_let (XE_2 wI (L_iload_n (x := s13.1) 4 X dX7_asked_100 rfl rfl) (XE_tern (CE_1 (L_iload (x := is_52) 0 X dX7_asked_101 rfl) (Z_ne_F X dX7_asked_103 (by decide))) (XE_2 wI (L_iconst (v := 1) X dX7_asked_106 (by decide)) (XE_2 wR (XE_1 (L_aload_n (r := (some this)) 5 X dX7_asked_107 rfl rfl) (O_gr (c := 8) (j := 40) X rfl inW7 (by decide) fl_X7_120 rfl dX7_asked_108)) (L_iload (x := by_27) 1 X dX7_asked_111 rfl) (O_ai X dX7_asked_113)) (O_ishl X dX7_asked_114)) (S_goto X dX7_asked_115 (by decide)) (L_iconst (v := 0) X dX7_asked_118 (by decide))) (O_ior X dX7_asked_119)) (S_istore_n (ev := fun set_62 => [(2, .int set_62), (6, .int is_52), (5, .int by_27), (4, .int s13.2), (3, .int s9.2), (0, va_rf (some this)), (1, .int its_)]) X dX7_asked_120 rfl (by rw [hN]; decide) (fun _ => rfl)) fun set_62 =>
  (ST_pre (env' := [(4, .int (s13.2 + 1)), (2, .int set_62), (6, .int is_52), (5, .int by_27), (3, .int s9.2), (0, va_rf (some this)), (1, .int its_)]) (S_iinc 3 X dX7_asked_121 rfl rfl (by rw [hN]; decide) rfl)
  (ST_done (upd := (fun (s : Int32 × Int32) => [(4, .int s.2), (3, .int s9.2), (2, .int s.1), (0, va_rf (some this)), (1, .int its_)])) (s := (set_62, (s13.2 + 1))) [0, 4, 1, 5, 6] rfl))))) fun _ mm a b h => S_goto X dX7_asked_124 (by decide) [] mm a b h))) fun s63 =>
  (ST_pre (env' := [(3, .int (s9.2 + 1)), (4, .int s63.2), (2, .int s63.1), (0, va_rf (some this)), (1, .int its_)]) (S_iinc 1 X dX7_asked_127 rfl rfl (by rw [hN]; decide) rfl)
  (ST_done (upd := (fun (s : Int32 × Int32) => [(3, .int s.2), (2, .int s.1), (0, va_rf (some this)), (1, .int its_)])) (s := (s63.1, (s9.2 + 1))) [0, 2, 3, 4] rfl)))) fun _ mm a b h => S_goto X dX7_asked_130 (by decide) [] mm a b h))) fun s64 =>
  (SB_retI X C hr dX7_asked_134 (L_iload_n (x := s64.1) 1 X dX7_asked_133 rfl rfl))))) h (by rw [hR]; decide) (by rw [hR]; decide)
theorem dX7_adds_0 : decode cX7_adds 0 = .ok (.aload_n 0, 1) := by decide +kernel
theorem dX7_adds_1 : decode cX7_adds 1 = .ok (.getfield 93, 3) := by decide +kernel
theorem dX7_adds_4 : decode cX7_adds 4 = .ok (.aload_n 0, 1) := by decide +kernel
theorem dX7_adds_5 : decode cX7_adds 5 = .ok (.getfield 146, 3) := by decide +kernel
theorem dX7_adds_8 : decode cX7_adds 8 = .ok (.iload_n 1, 1) := by decide +kernel
theorem dX7_adds_9 : decode cX7_adds 9 = .ok (.iastore, 1) := by decide +kernel
theorem dX7_adds_10 : decode cX7_adds 10 = .ok (.aload_n 0, 1) := by decide +kernel
theorem dX7_adds_11 : decode cX7_adds 11 = .ok (.getfield 96, 3) := by decide +kernel
theorem dX7_adds_14 : decode cX7_adds 14 = .ok (.aload_n 0, 1) := by decide +kernel
theorem dX7_adds_15 : decode cX7_adds 15 = .ok (.getfield 146, 3) := by decide +kernel
theorem dX7_adds_18 : decode cX7_adds 18 = .ok (.iload_n 2, 1) := by decide +kernel
theorem dX7_adds_19 : decode cX7_adds 19 = .ok (.iastore, 1) := by decide +kernel
theorem dX7_adds_20 : decode cX7_adds 20 = .ok (.aload_n 0, 1) := by decide +kernel
theorem dX7_adds_21 : decode cX7_adds 21 = .ok (.getfield 99, 3) := by decide +kernel
theorem dX7_adds_24 : decode cX7_adds 24 = .ok (.aload_n 0, 1) := by decide +kernel
theorem dX7_adds_25 : decode cX7_adds 25 = .ok (.getfield 146, 3) := by decide +kernel
theorem dX7_adds_28 : decode cX7_adds 28 = .ok (.iload_n 3, 1) := by decide +kernel
theorem dX7_adds_29 : decode cX7_adds 29 = .ok (.iastore, 1) := by decide +kernel
theorem dX7_adds_30 : decode cX7_adds 30 = .ok (.aload_n 0, 1) := by decide +kernel
theorem dX7_adds_31 : decode cX7_adds 31 = .ok (.getfield 102, 3) := by decide +kernel
theorem dX7_adds_34 : decode cX7_adds 34 = .ok (.aload_n 0, 1) := by decide +kernel
theorem dX7_adds_35 : decode cX7_adds 35 = .ok (.getfield 146, 3) := by decide +kernel
theorem dX7_adds_38 : decode cX7_adds 38 = .ok (.iload 4, 2) := by decide +kernel
theorem dX7_adds_40 : decode cX7_adds 40 = .ok (.iastore, 1) := by decide +kernel
theorem dX7_adds_41 : decode cX7_adds 41 = .ok (.aload_n 0, 1) := by decide +kernel
theorem dX7_adds_42 : decode cX7_adds 42 = .ok (.getfield 105, 3) := by decide +kernel
theorem dX7_adds_45 : decode cX7_adds 45 = .ok (.aload_n 0, 1) := by decide +kernel
theorem dX7_adds_46 : decode cX7_adds 46 = .ok (.getfield 146, 3) := by decide +kernel
theorem dX7_adds_49 : decode cX7_adds 49 = .ok (.iconst (-1), 1) := by decide +kernel
theorem dX7_adds_50 : decode cX7_adds 50 = .ok (.iastore, 1) := by decide +kernel
theorem dX7_adds_51 : decode cX7_adds 51 = .ok (.aload_n 0, 1) := by decide +kernel
theorem dX7_adds_52 : decode cX7_adds 52 = .ok (.getfield 111, 3) := by decide +kernel
theorem dX7_adds_55 : decode cX7_adds 55 = .ok (.aload_n 0, 1) := by decide +kernel
theorem dX7_adds_56 : decode cX7_adds 56 = .ok (.getfield 146, 3) := by decide +kernel
theorem dX7_adds_59 : decode cX7_adds 59 = .ok (.iconst (-1), 1) := by decide +kernel
theorem dX7_adds_60 : decode cX7_adds 60 = .ok (.iastore, 1) := by decide +kernel
theorem dX7_adds_61 : decode cX7_adds 61 = .ok (.aload_n 0, 1) := by decide +kernel
theorem dX7_adds_62 : decode cX7_adds 62 = .ok (.dup, 1) := by decide +kernel
theorem dX7_adds_63 : decode cX7_adds 63 = .ok (.getfield 146, 3) := by decide +kernel
theorem dX7_adds_66 : decode cX7_adds 66 = .ok (.iconst 1, 1) := by decide +kernel
theorem dX7_adds_67 : decode cX7_adds 67 = .ok (.iadd, 1) := by decide +kernel
theorem dX7_adds_68 : decode cX7_adds 68 = .ok (.putfield 146, 3) := by decide +kernel
theorem dX7_adds_71 : decode cX7_adds 71 = .ok (.aload_n 0, 1) := by decide +kernel
theorem dX7_adds_72 : decode cX7_adds 72 = .ok (.getfield 146, 3) := by decide +kernel
theorem dX7_adds_75 : decode cX7_adds 75 = .ok (.iconst 1, 1) := by decide +kernel
theorem dX7_adds_76 : decode cX7_adds 76 = .ok (.isub, 1) := by decide +kernel
theorem dX7_adds_77 : decode cX7_adds 77 = .ok (.ireturn, 1) := by decide +kernel
theorem lk_X7_adds : LK yX7_adds cX7_adds 5 (some .int) 4 := ⟨qW_at 1604 (by decide +kernel) rfl, qW_at 78 (by decide +kernel) rfl, by decide, by decide, by decide +kernel⟩
theorem im_X7_adds : Cond.instanceMethod yX7_adds ∈ qW := qW_at 1603 (by decide +kernel) rfl
theorem se_X7_adds : Cond.selects RX7 yX7_adds yX7_adds ∈ qW := qW_at 48 (by decide +kernel) rfl
def F_X7_adds (this : Nat) (what_ : Int32) (from_ : Int32) (to_ : Int32) (its_ : Int32) : QX Int32 :=
  (xb (xb (xb (xp (some this)) fun v1 => xgr 8 31 v1) fun v3 => xb (xb (xp (some this)) fun v2 => xgi 8 29 v2) fun v4 => xb (xp what_) fun v5 => xsai v3 v4 v5) fun _ =>
  (xb (xb (xb (xp (some this)) fun v6 => xgr 8 32 v6) fun v8 => xb (xb (xp (some this)) fun v7 => xgi 8 29 v7) fun v9 => xb (xp from_) fun v10 => xsai v8 v9 v10) fun _ =>
  (xb (xb (xb (xp (some this)) fun v11 => xgr 8 33 v11) fun v13 => xb (xb (xp (some this)) fun v12 => xgi 8 29 v12) fun v14 => xb (xp to_) fun v15 => xsai v13 v14 v15) fun _ =>
  (xb (xb (xb (xp (some this)) fun v16 => xgr 8 34 v16) fun v18 => xb (xb (xp (some this)) fun v17 => xgi 8 29 v17) fun v19 => xb (xp its_) fun v20 => xsai v18 v19 v20) fun _ =>
  (xb (xb (xb (xp (some this)) fun v21 => xgr 8 35 v21) fun v23 => xb (xb (xp (some this)) fun v22 => xgi 8 29 v22) fun v24 => xb (xp (-1 : Int32)) fun v25 => xsai v23 v24 v25) fun _ =>
  (xb (xb (xb (xp (some this)) fun v26 => xgr 8 37 v26) fun v28 => xb (xb (xp (some this)) fun v27 => xgi 8 29 v27) fun v29 => xb (xp (-1 : Int32)) fun v30 => xsai v28 v29 v30) fun _ =>
  (xb (xb (xp (some this)) fun v31 => xb (xgi 8 29 v31) fun v32 => xb (xp (1 : Int32)) fun v33 => xb (xp (v32 + v33)) fun v34 => xsi 8 29 v31 v34) fun _ =>
  (xb (xb (xp (some this)) fun v35 => xgi 8 29 v35) fun v36 => xb (xp (1 : Int32)) fun v37 => (xp (v36 - v37))))))))))
set_option maxRecDepth 100000 in
set_option maxHeartbeats 4000000 in
theorem M_X7_adds (this : Nat) (what_ : Int32) (from_ : Int32) (to_ : Int32) (its_ : Int32) : MM yX7_adds cX7_adds 5 (some .int) 0 0 0 0 encI [.ref this, .int what_, .int from_, .int to_, .int its_] (F_X7_adds this what_ from_ to_ its_) := by
  refine MM_of (env0 := [(0, va_rf (some this)), (1, .int what_), (2, .int from_), (3, .int to_), (4, .int its_)]) (by decide) (by exact Nat.le_of_ble_eq_true rfl) (by rfl) (fun k mm res X C hR hN hr hname h => ?_)
  have X : CX k cX7_adds RX7 := X
  have hT : TH k (fun e m' => res = (.error e, m')) := TH_of C
  have htr := C.2.2.2.1
  unfold F_X7_adds at h
  exact SB_go (T := fun e m' => res = (.error e, m')) (RET := fun v m' => res = (.ok v, m')) (SB_do (XE_3 wR wI (XE_1 (L_aload_n (r := (some this)) 0 X dX7_adds_0 rfl rfl) (O_gr (c := 8) (j := 31) X rfl inW7 (by decide) fl_X7_93 rfl dX7_adds_1)) (XE_1 (L_aload_n (r := (some this)) 0 X dX7_adds_4 rfl rfl) (O_gi (c := 8) (j := 29) X rfl inW7 (by decide) fl_X7_146 rfl dX7_adds_5)) (L_iload_n (x := what_) 1 X dX7_adds_8 rfl rfl) (O_sai X dX7_adds_9))
  (SB_do (XE_3 wR wI (XE_1 (L_aload_n (r := (some this)) 0 X dX7_adds_10 rfl rfl) (O_gr (c := 8) (j := 32) X rfl inW7 (by decide) fl_X7_96 rfl dX7_adds_11)) (XE_1 (L_aload_n (r := (some this)) 0 X dX7_adds_14 rfl rfl) (O_gi (c := 8) (j := 29) X rfl inW7 (by decide) fl_X7_146 rfl dX7_adds_15)) (L_iload_n (x := from_) 2 X dX7_adds_18 rfl rfl) (O_sai X dX7_adds_19))
  (SB_do (XE_3 wR wI (XE_1 (L_aload_n (r := (some this)) 0 X dX7_adds_20 rfl rfl) (O_gr (c := 8) (j := 33) X rfl inW7 (by decide) fl_X7_99 rfl dX7_adds_21)) (XE_1 (L_aload_n (r := (some this)) 0 X dX7_adds_24 rfl rfl) (O_gi (c := 8) (j := 29) X rfl inW7 (by decide) fl_X7_146 rfl dX7_adds_25)) (L_iload_n (x := to_) 3 X dX7_adds_28 rfl rfl) (O_sai X dX7_adds_29))
  (SB_do (XE_3 wR wI (XE_1 (L_aload_n (r := (some this)) 0 X dX7_adds_30 rfl rfl) (O_gr (c := 8) (j := 34) X rfl inW7 (by decide) fl_X7_102 rfl dX7_adds_31)) (XE_1 (L_aload_n (r := (some this)) 0 X dX7_adds_34 rfl rfl) (O_gi (c := 8) (j := 29) X rfl inW7 (by decide) fl_X7_146 rfl dX7_adds_35)) (L_iload (x := its_) 4 X dX7_adds_38 rfl) (O_sai X dX7_adds_40))
  (SB_do (XE_3 wR wI (XE_1 (L_aload_n (r := (some this)) 0 X dX7_adds_41 rfl rfl) (O_gr (c := 8) (j := 35) X rfl inW7 (by decide) fl_X7_105 rfl dX7_adds_42)) (XE_1 (L_aload_n (r := (some this)) 0 X dX7_adds_45 rfl rfl) (O_gi (c := 8) (j := 29) X rfl inW7 (by decide) fl_X7_146 rfl dX7_adds_46)) (L_iconst (v := (-1)) X dX7_adds_49 (by decide)) (O_sai X dX7_adds_50))
  (SB_do (XE_3 wR wI (XE_1 (L_aload_n (r := (some this)) 0 X dX7_adds_51 rfl rfl) (O_gr (c := 8) (j := 37) X rfl inW7 (by decide) fl_X7_111 rfl dX7_adds_52)) (XE_1 (L_aload_n (r := (some this)) 0 X dX7_adds_55 rfl rfl) (O_gi (c := 8) (j := 29) X rfl inW7 (by decide) fl_X7_146 rfl dX7_adds_56)) (L_iconst (v := (-1)) X dX7_adds_59 (by decide)) (O_sai X dX7_adds_60))
  (SB_do (XE_dup wI (L_aload_n (r := (some this)) 0 X dX7_adds_61 rfl rfl) (S_dup X dX7_adds_62) (O_gi (c := 8) (j := 29) X rfl inW7 (by decide) fl_X7_146 rfl dX7_adds_63) (L_iconst (v := 1) X dX7_adds_66 (by decide)) (O_iadd X dX7_adds_67) (O_si (c := 8) (j := 29) tyX7 X rfl inW7 tyX7_ok nmX7 (by decide) fl_X7_146 (Or.inl rfl) rfl (by decide +kernel) dX7_adds_68))
  (SB_retI X C hr dX7_adds_77 (XE_2 wI (XE_1 (L_aload_n (r := (some this)) 0 X dX7_adds_71 rfl rfl) (O_gi (c := 8) (j := 29) X rfl inW7 (by decide) fl_X7_146 rfl dX7_adds_72)) (L_iconst (v := 1) X dX7_adds_75 (by decide)) (O_isub X dX7_adds_76)))))))))) h (by rw [hR]; decide) (by rw [hR]; decide)
theorem dX7_requests_0 : decode cX7_requests 0 = .ok (.aload_n 0, 1) := by decide +kernel
theorem dX7_requests_1 : decode cX7_requests 1 = .ok (.iconst 0, 1) := by decide +kernel
theorem dX7_requests_2 : decode cX7_requests 2 = .ok (.iload_n 1, 1) := by decide +kernel
theorem dX7_requests_3 : decode cX7_requests 3 = .ok (.iload_n 2, 1) := by decide +kernel
theorem dX7_requests_4 : decode cX7_requests 4 = .ok (.iload_n 3, 1) := by decide +kernel
theorem dX7_requests_5 : decode cX7_requests 5 = .ok (.invokevirtual 242, 3) := by decide +kernel
theorem dX7_requests_8 : decode cX7_requests 8 = .ok (.istore 5, 2) := by decide +kernel
theorem dX7_requests_10 : decode cX7_requests 10 = .ok (.aload_n 0, 1) := by decide +kernel
theorem dX7_requests_11 : decode cX7_requests 11 = .ok (.getfield 105, 3) := by decide +kernel
theorem dX7_requests_14 : decode cX7_requests 14 = .ok (.iload 5, 2) := by decide +kernel
theorem dX7_requests_16 : decode cX7_requests 16 = .ok (.iload 4, 2) := by decide +kernel
theorem dX7_requests_18 : decode cX7_requests 18 = .ok (.iastore, 1) := by decide +kernel
theorem dX7_requests_19 : decode cX7_requests 19 = .ok (.aload_n 0, 1) := by decide +kernel
theorem dX7_requests_20 : decode cX7_requests 20 = .ok (.getfield 28, 3) := by decide +kernel
theorem dX7_requests_23 : decode cX7_requests 23 = .ok (.iload 4, 2) := by decide +kernel
theorem dX7_requests_25 : decode cX7_requests 25 = .ok (.iconst 1, 1) := by decide +kernel
theorem dX7_requests_26 : decode cX7_requests 26 = .ok (.bastore, 1) := by decide +kernel
theorem dX7_requests_27 : decode cX7_requests 27 = .ok (.aload_n 0, 1) := by decide +kernel
theorem dX7_requests_28 : decode cX7_requests 28 = .ok (.getfield 108, 3) := by decide +kernel
theorem dX7_requests_31 : decode cX7_requests 31 = .ok (.iload 5, 2) := by decide +kernel
theorem dX7_requests_33 : decode cX7_requests 33 = .ok (.aload_n 0, 1) := by decide +kernel
theorem dX7_requests_34 : decode cX7_requests 34 = .ok (.getfield 32, 3) := by decide +kernel
theorem dX7_requests_37 : decode cX7_requests 37 = .ok (.iload 4, 2) := by decide +kernel
theorem dX7_requests_39 : decode cX7_requests 39 = .ok (.iaload, 1) := by decide +kernel
theorem dX7_requests_40 : decode cX7_requests 40 = .ok (.iastore, 1) := by decide +kernel
theorem dX7_requests_41 : decode cX7_requests 41 = .ok (.return_, 1) := by decide +kernel
theorem lk_X7_requests : LK yX7_requests cX7_requests 6 none 4 := ⟨qW_at 1600 (by decide +kernel) rfl, qW_at 78 (by decide +kernel) rfl, by decide, by decide, by decide +kernel⟩
theorem im_X7_requests : Cond.instanceMethod yX7_requests ∈ qW := qW_at 1599 (by decide +kernel) rfl
theorem se_X7_requests : Cond.selects RX7 yX7_requests yX7_requests ∈ qW := qW_at 47 (by decide +kernel) rfl
def F_X7_requests (this : Nat) (from_ : Int32) (to_ : Int32) (its_ : Int32) (which_ : Int32) : QX Unit :=
  (xb (xb (xp (some this)) fun v1 => xb (xp (0 : Int32)) fun v2 => xb (xp from_) fun v3 => xb (xp to_) fun v4 => xb (xp its_) fun v5 => xo 8 v1 fun q => F_X7_adds q v2 v3 v4 v5) fun message_6 =>
  (xb (xb (xb (xp (some this)) fun v7 => xgr 8 35 v7) fun v8 => xb (xp message_6) fun v9 => xb (xp which_) fun v10 => xsai v8 v9 v10) fun _ =>
  (xb (xb (xb (xp (some this)) fun v11 => xgr 8 8 v11) fun v12 => xb (xp which_) fun v13 => xb (xp (1 : Int32)) fun v14 => xsaz v12 v13 v14) fun _ =>
  (xb (xb (xb (xp (some this)) fun v15 => xgr 8 36 v15) fun v19 => xb (xp message_6) fun v20 => xb (xb (xb (xp (some this)) fun v16 => xgr 8 9 v16) fun v17 => xb (xp which_) fun v18 => xai 0 v17 v18) fun v21 => xsai v19 v20 v21) fun _ =>
  (xp ())))))
set_option maxRecDepth 100000 in
set_option maxHeartbeats 4000000 in
theorem M_X7_requests (this : Nat) (from_ : Int32) (to_ : Int32) (its_ : Int32) (which_ : Int32) : MM yX7_requests cX7_requests 6 none 1 24 0 0 encU [.ref this, .int from_, .int to_, .int its_, .int which_] (F_X7_requests this from_ to_ its_ which_) := by
  refine MM_of (env0 := [(0, va_rf (some this)), (1, .int from_), (2, .int to_), (3, .int its_), (4, .int which_)]) (by decide) (by exact Nat.le_of_ble_eq_true rfl) (by rfl) (fun k mm res X C hR hN hr hname h => ?_)
  have X : CX k cX7_requests RX7 := X
  have hT : TH k (fun e m' => res = (.error e, m')) := TH_of C
  have htr := C.2.2.2.1
  unfold F_X7_requests at h
  exact SB_go (T := fun e m' => res = (.error e, m')) (RET := fun v m' => res = (.ok v, m')) (SB_let (XE_5 (pB := pI) wR wI wI wI (L_aload_n (r := (some this)) 0 X dX7_requests_0 rfl rfl) (L_iconst (v := 0) X dX7_requests_1 (by decide)) (L_iload_n (x := from_) 1 X dX7_requests_2 rfl rfl) (L_iload_n (x := to_) 2 X dX7_requests_3 rfl rfl) (L_iload_n (x := its_) 3 X dX7_requests_4 rfl rfl) (fun v0 v1 v2 v3 v4 st mm a b hd hc hs h => g_callVo (st := st) (cI := 8) X hT htr rfl (fun q => M_X7_adds q v1 v2 v3 v4) lk_X7_adds im_X7_adds se_X7_adds ml_X7_242 rfl (by rw [hR]; exact ⟨Nat.le_of_ble_eq_true rfl, Nat.le_of_ble_eq_true rfl⟩) (Nat.le_trans hd (by decide)) ⟨hc, hs⟩ dX7_requests_5 h)) (S_istore (ev := fun message_6 => [(5, .int message_6), (0, va_rf (some this)), (1, .int from_), (2, .int to_), (3, .int its_), (4, .int which_)]) X dX7_requests_8 (by rw [hN]; decide) (fun _ => rfl)) fun message_6 =>
  (SB_do (XE_3 wR wI (XE_1 (L_aload_n (r := (some this)) 1 X dX7_requests_10 rfl rfl) (O_gr (c := 8) (j := 35) X rfl inW7 (by decide) fl_X7_105 rfl dX7_requests_11)) (L_iload (x := message_6) 0 X dX7_requests_14 rfl) (L_iload (x := which_) 5 X dX7_requests_16 rfl) (O_sai X dX7_requests_18))
  (SB_do (XE_3 wR wI (XE_1 (L_aload_n (r := (some this)) 1 X dX7_requests_19 rfl rfl) (O_gr (c := 8) (j := 8) X rfl inW7 (by decide) fl_X7_28 rfl dX7_requests_20)) (L_iload (x := which_) 5 X dX7_requests_23 rfl) (L_iconst (v := 1) X dX7_requests_25 (by decide)) (O_saz X dX7_requests_26))
  (SB_do (XE_3 wR wI (XE_1 (L_aload_n (r := (some this)) 1 X dX7_requests_27 rfl rfl) (O_gr (c := 8) (j := 36) X rfl inW7 (by decide) fl_X7_108 rfl dX7_requests_28)) (L_iload (x := message_6) 0 X dX7_requests_31 rfl) (XE_2 wR (XE_1 (L_aload_n (r := (some this)) 1 X dX7_requests_33 rfl rfl) (O_gr (c := 8) (j := 9) X rfl inW7 (by decide) fl_X7_32 rfl dX7_requests_34)) (L_iload (x := which_) 5 X dX7_requests_37 rfl) (O_ai X dX7_requests_39)) (O_sai X dX7_requests_40))
  (SB_retU X C hr dX7_requests_41))))) h (by rw [hR]; decide) (by rw [hR]; decide)
theorem dX7_send_0 : decode cX7_send 0 = .ok (.aload_n 0, 1) := by decide +kernel
theorem dX7_send_1 : decode cX7_send 1 = .ok (.iload_n 1, 1) := by decide +kernel
theorem dX7_send_2 : decode cX7_send 2 = .ok (.invokevirtual 211, 3) := by decide +kernel
theorem dX7_send_5 : decode cX7_send 5 = .ok (.istore_n 2, 1) := by decide +kernel
theorem dX7_send_6 : decode cX7_send 6 = .ok (.iload_n 2, 1) := by decide +kernel
theorem dX7_send_7 : decode cX7_send 7 = .ok (.ifCond .eq 30, 3) := by decide +kernel
theorem dX7_send_10 : decode cX7_send 10 = .ok (.aload_n 0, 1) := by decide +kernel
theorem dX7_send_11 : decode cX7_send 11 = .ok (.iload_n 1, 1) := by decide +kernel
theorem dX7_send_12 : decode cX7_send 12 = .ok (.invokevirtual 246, 3) := by decide +kernel
theorem dX7_send_15 : decode cX7_send 15 = .ok (.aload_n 0, 1) := by decide +kernel
theorem dX7_send_16 : decode cX7_send 16 = .ok (.getfield 59, 3) := by decide +kernel
theorem dX7_send_19 : decode cX7_send 19 = .ok (.aload_n 0, 1) := by decide +kernel
theorem dX7_send_20 : decode cX7_send 20 = .ok (.getfield 22, 3) := by decide +kernel
theorem dX7_send_23 : decode cX7_send 23 = .ok (.iload_n 1, 1) := by decide +kernel
theorem dX7_send_24 : decode cX7_send 24 = .ok (.iaload, 1) := by decide +kernel
theorem dX7_send_25 : decode cX7_send 25 = .ok (.iaload, 1) := by decide +kernel
theorem dX7_send_26 : decode cX7_send 26 = .ok (.ior, 1) := by decide +kernel
theorem dX7_send_27 : decode cX7_send 27 = .ok (.aload_n 0, 1) := by decide +kernel
theorem dX7_send_28 : decode cX7_send 28 = .ok (.getfield 25, 3) := by decide +kernel
theorem dX7_send_31 : decode cX7_send 31 = .ok (.iload_n 1, 1) := by decide +kernel
theorem dX7_send_32 : decode cX7_send 32 = .ok (.iaload, 1) := by decide +kernel
theorem dX7_send_33 : decode cX7_send 33 = .ok (.ior, 1) := by decide +kernel
theorem dX7_send_34 : decode cX7_send 34 = .ok (.goto 4, 3) := by decide +kernel
theorem dX7_send_37 : decode cX7_send 37 = .ok (.iconst 0, 1) := by decide +kernel
theorem dX7_send_38 : decode cX7_send 38 = .ok (.istore_n 3, 1) := by decide +kernel
theorem dX7_send_39 : decode cX7_send 39 = .ok (.iconst 0, 1) := by decide +kernel
theorem dX7_send_40 : decode cX7_send 40 = .ok (.istore 4, 2) := by decide +kernel
theorem dX7_send_42 : decode cX7_send 42 = .ok (.iconst 0, 1) := by decide +kernel
theorem dX7_send_43 : decode cX7_send 43 = .ok (.istore 5, 2) := by decide +kernel
theorem dX7_send_45 : decode cX7_send 45 = .ok (.iload 5, 2) := by decide +kernel
theorem dX7_send_47 : decode cX7_send 47 = .ok (.iconst 5, 1) := by decide +kernel
theorem dX7_send_48 : decode cX7_send 48 = .ok (.if_icmp .ge 20, 3) := by decide +kernel
theorem dX7_send_51 : decode cX7_send 51 = .ok (.iload 4, 2) := by decide +kernel
theorem dX7_send_53 : decode cX7_send 53 = .ok (.iload_n 3, 1) := by decide +kernel
theorem dX7_send_54 : decode cX7_send 54 = .ok (.iload 5, 2) := by decide +kernel
theorem dX7_send_56 : decode cX7_send 56 = .ok (.ishr, 1) := by decide +kernel
theorem dX7_send_57 : decode cX7_send 57 = .ok (.iconst 1, 1) := by decide +kernel
theorem dX7_send_58 : decode cX7_send 58 = .ok (.iand, 1) := by decide +kernel
theorem dX7_send_59 : decode cX7_send 59 = .ok (.iadd, 1) := by decide +kernel
theorem dX7_send_60 : decode cX7_send 60 = .ok (.istore 4, 2) := by decide +kernel
theorem dX7_send_62 : decode cX7_send 62 = .ok (.iinc 5 1, 3) := by decide +kernel
theorem dX7_send_65 : decode cX7_send 65 = .ok (.goto (-20), 3) := by decide +kernel
theorem dX7_send_68 : decode cX7_send 68 = .ok (.aload_n 0, 1) := by decide +kernel
theorem dX7_send_69 : decode cX7_send 69 = .ok (.iload_n 2, 1) := by decide +kernel
theorem dX7_send_70 : decode cX7_send 70 = .ok (.aload_n 0, 1) := by decide +kernel
theorem dX7_send_71 : decode cX7_send 71 = .ok (.getfield 146, 3) := by decide +kernel
theorem dX7_send_74 : decode cX7_send 74 = .ok (.iload 4, 2) := by decide +kernel
theorem dX7_send_76 : decode cX7_send 76 = .ok (.iadd, 1) := by decide +kernel
theorem dX7_send_77 : decode cX7_send 77 = .ok (.sipush 150, 3) := by decide +kernel
theorem dX7_send_80 : decode cX7_send 80 = .ok (.if_icmp .gt 7, 3) := by decide +kernel
theorem dX7_send_83 : decode cX7_send 83 = .ok (.iconst 1, 1) := by decide +kernel
theorem dX7_send_84 : decode cX7_send 84 = .ok (.goto 4, 3) := by decide +kernel
theorem dX7_send_87 : decode cX7_send 87 = .ok (.iconst 0, 1) := by decide +kernel
theorem dX7_send_88 : decode cX7_send 88 = .ok (.iconst 1, 1) := by decide +kernel
theorem dX7_send_89 : decode cX7_send 89 = .ok (.invokevirtual 153, 3) := by decide +kernel
theorem dX7_send_92 : decode cX7_send 92 = .ok (.ifCond .ne 5, 3) := by decide +kernel
theorem dX7_send_95 : decode cX7_send 95 = .ok (.iconst 0, 1) := by decide +kernel
theorem dX7_send_96 : decode cX7_send 96 = .ok (.ireturn, 1) := by decide +kernel
theorem dX7_send_97 : decode cX7_send 97 = .ok (.iconst 0, 1) := by decide +kernel
theorem dX7_send_98 : decode cX7_send 98 = .ok (.istore 5, 2) := by decide +kernel
theorem dX7_send_100 : decode cX7_send 100 = .ok (.iload 5, 2) := by decide +kernel
theorem dX7_send_102 : decode cX7_send 102 = .ok (.iconst 5, 1) := by decide +kernel
theorem dX7_send_103 : decode cX7_send 103 = .ok (.if_icmp .ge 38, 3) := by decide +kernel
theorem dX7_send_106 : decode cX7_send 106 = .ok (.iload_n 3, 1) := by decide +kernel
theorem dX7_send_107 : decode cX7_send 107 = .ok (.iload 5, 2) := by decide +kernel
theorem dX7_send_109 : decode cX7_send 109 = .ok (.ishr, 1) := by decide +kernel
theorem dX7_send_110 : decode cX7_send 110 = .ok (.iconst 1, 1) := by decide +kernel
theorem dX7_send_111 : decode cX7_send 111 = .ok (.iand, 1) := by decide +kernel
theorem dX7_send_112 : decode cX7_send 112 = .ok (.iconst 1, 1) := by decide +kernel
theorem dX7_send_113 : decode cX7_send 113 = .ok (.if_icmp .ne 22, 3) := by decide +kernel
theorem dX7_send_116 : decode cX7_send 116 = .ok (.aload_n 0, 1) := by decide +kernel
theorem dX7_send_117 : decode cX7_send 117 = .ok (.aload_n 0, 1) := by decide +kernel
theorem dX7_send_118 : decode cX7_send 118 = .ok (.getfield 19, 3) := by decide +kernel
theorem dX7_send_121 : decode cX7_send 121 = .ok (.iload_n 1, 1) := by decide +kernel
theorem dX7_send_122 : decode cX7_send 122 = .ok (.iaload, 1) := by decide +kernel
theorem dX7_send_123 : decode cX7_send 123 = .ok (.iload 5, 2) := by decide +kernel
theorem dX7_send_125 : decode cX7_send 125 = .ok (.iload_n 1, 1) := by decide +kernel
theorem dX7_send_126 : decode cX7_send 126 = .ok (.aload_n 0, 1) := by decide +kernel
theorem dX7_send_127 : decode cX7_send 127 = .ok (.getfield 22, 3) := by decide +kernel
theorem dX7_send_130 : decode cX7_send 130 = .ok (.iload_n 1, 1) := by decide +kernel
theorem dX7_send_131 : decode cX7_send 131 = .ok (.iaload, 1) := by decide +kernel
theorem dX7_send_132 : decode cX7_send 132 = .ok (.invokevirtual 249, 3) := by decide +kernel
theorem dX7_send_135 : decode cX7_send 135 = .ok (.iinc 5 1, 3) := by decide +kernel
theorem dX7_send_138 : decode cX7_send 138 = .ok (.goto (-38), 3) := by decide +kernel
theorem dX7_send_141 : decode cX7_send 141 = .ok (.aload_n 0, 1) := by decide +kernel
theorem dX7_send_142 : decode cX7_send 142 = .ok (.getfield 25, 3) := by decide +kernel
theorem dX7_send_145 : decode cX7_send 145 = .ok (.iload_n 1, 1) := by decide +kernel
theorem dX7_send_146 : decode cX7_send 146 = .ok (.iload_n 3, 1) := by decide +kernel
theorem dX7_send_147 : decode cX7_send 147 = .ok (.iastore, 1) := by decide +kernel
theorem dX7_send_148 : decode cX7_send 148 = .ok (.iload 4, 2) := by decide +kernel
theorem dX7_send_150 : decode cX7_send 150 = .ok (.ireturn, 1) := by decide +kernel
theorem lk_X7_send : LK yX7_send cX7_send 6 (some .int) 1 := ⟨qW_at 1584 (by decide +kernel) rfl, qW_at 78 (by decide +kernel) rfl, by decide, by decide, by decide +kernel⟩
theorem im_X7_send : Cond.instanceMethod yX7_send ∈ qW := qW_at 1582 (by decide +kernel) rfl
theorem se_X7_send : Cond.selects RX7 yX7_send yX7_send ∈ qW := qW_at 1583 (by decide +kernel) rfl
def F_X7_send (this : Nat) (its_ : Int32) : QX Int32 :=
  (xb (xb (xp (some this)) fun v1 => xb (xp its_) fun v2 => xo 8 v1 fun q => F_X7_isMeeting q v2) fun is_3 =>
  (xb (xb (xb (xp is_3) fun v4 => xp (decide (¬ v4 = 0))) fun v20 => if v20 then (xb (xb (xb (xp (some this)) fun v5 => xb (xp its_) fun v6 => xo 8 v5 fun q => F_X7_asked q v6) fun v13 => xb (xb (xb (xp (some this)) fun v7 => xgr 8 18 v7) fun v11 => xb (xb (xb (xp (some this)) fun v8 => xgr 8 5 v8) fun v9 => xb (xp its_) fun v10 => xai 0 v9 v10) fun v12 => xai 0 v11 v12) fun v14 => (xp (v13 ||| v14))) fun v18 => xb (xb (xb (xp (some this)) fun v15 => xgr 8 6 v15) fun v16 => xb (xp its_) fun v17 => xai 0 v16 v17) fun v19 => (xp (v18 ||| v19))) else (xp (0 : Int32))) fun set_21 =>
  (xb (xp (0 : Int32)) fun many_22 =>
  (xb (xp (0 : Int32)) fun k_23 =>
  (xb (xl 2000 (fun (s24 : Int32 × Int32) => (xb (xp s24.2) fun v25 => xb (xp (5 : Int32)) fun v26 => xp (decide (v25 < v26)))) (fun (s24 : Int32 × Int32) =>
  (xb (xb (xp s24.1) fun v31 => xb (xb (xb (xp set_21) fun v27 => xb (xp s24.2) fun v28 => (xp (v27 >>> (v28 &&& 31)))) fun v29 => xb (xp (1 : Int32)) fun v30 => (xp (v29 &&& v30))) fun v32 => (xp (v31 + v32))) fun many_33 =>
  (xp (many_33, (s24.2 + 1))))) (many_22, k_23)) fun s34 =>
  (xb (xb (xb (xb (xp (some this)) fun v41 => xb (xp is_3) fun v42 => xb (xb (xb (xb (xb (xp (some this)) fun v35 => xgi 8 29 v35) fun v36 => xb (xp s34.1) fun v37 => (xp (v36 + v37))) fun v38 => xb (xp (150 : Int32)) fun v39 => xp (decide (v38 ≤ v39))) fun v40 => xp (b2i v40)) fun v43 => xb (xp (1 : Int32)) fun v44 => xo 8 v41 fun q => F_X7_goes q v42 v43 v44) fun v45 => xp (decide (¬ v45 = 0))) fun v46 => xp (!v46)) fun v75 => if v75 then (xp (0 : Int32)) else
  (xb (xp (0 : Int32)) fun k_47 =>
  (xb (xl 2000 (fun (s48 : Int32) => (xb (xp s48) fun v49 => xb (xp (5 : Int32)) fun v50 => xp (decide (v49 < v50)))) (fun (s48 : Int32) =>
  (xb (xb (xb (xb (xb (xp set_21) fun v51 => xb (xp s48) fun v52 => (xp (v51 >>> (v52 &&& 31)))) fun v53 => xb (xp (1 : Int32)) fun v54 => (xp (v53 &&& v54))) fun v55 => xb (xp (1 : Int32)) fun v56 => xp (decide (v55 = v56))) fun v68 => if v68 then (xb (xb (xp (some this)) fun v63 => xb (xb (xb (xp (some this)) fun v57 => xgr 8 4 v57) fun v58 => xb (xp its_) fun v59 => xai 0 v58 v59) fun v64 => xb (xp s48) fun v65 => xb (xp its_) fun v66 => xb (xb (xb (xp (some this)) fun v60 => xgr 8 5 v60) fun v61 => xb (xp its_) fun v62 => xai 0 v61 v62) fun v67 => xo 8 v63 fun q => F_X7_requests q v64 v65 v66 v67) fun _ =>
  (xp ())) else (xp ())) fun s69 =>
  (xp (s48 + 1)))) k_47) fun s70 =>
  (xb (xb (xb (xp (some this)) fun v71 => xgr 8 6 v71) fun v72 => xb (xp its_) fun v73 => xb (xp set_21) fun v74 => xsai v72 v73 v74) fun _ =>
  (xp s34.1))))))))))
set_option maxRecDepth 100000 in
set_option maxHeartbeats 4000000 in
theorem M_X7_send (this : Nat) (its_ : Int32) : MM yX7_send cX7_send 6 (some .int) 3 74 0 0 encI [.ref this, .int its_] (F_X7_send this its_) := by
  refine MM_of (env0 := [(0, va_rf (some this)), (1, .int its_)]) (by decide) (by exact Nat.le_of_ble_eq_true rfl) (by rfl) (fun k mm res X C hR hN hr hname h => ?_)
  have X : CX k cX7_send RX7 := X
  have hT : TH k (fun e m' => res = (.error e, m')) := TH_of C
  have htr := C.2.2.2.1
  unfold F_X7_send at h
  exact SB_go (T := fun e m' => res = (.error e, m')) (RET := fun v m' => res = (.ok v, m')) (SB_let (XE_2 (pB := pI) wR (L_aload_n (r := (some this)) 0 X dX7_send_0 rfl rfl) (L_iload_n (x := its_) 1 X dX7_send_1 rfl rfl) (fun v0 v1 st mm a b hd hc hs h => g_callVo (st := st) (cI := 8) X hT htr rfl (fun q => M_X7_isMeeting q v1) lk_X7_isMeeting im_X7_isMeeting se_X7_isMeeting ml_X7_211 rfl (by rw [hR]; exact ⟨Nat.le_of_ble_eq_true rfl, Nat.le_of_ble_eq_true rfl⟩) (Nat.le_trans hd (by decide)) ⟨hc, hs⟩ dX7_send_2 h)) (S_istore_n (ev := fun is_3 => [(2, .int is_3), (0, va_rf (some this)), (1, .int its_)]) X dX7_send_5 rfl (by rw [hN]; decide) (fun _ => rfl)) fun is_3 =>
  (SB_let (XE_tern (CE_1 (L_iload_n (x := is_3) 0 X dX7_send_6 rfl rfl) (Z_ne_F X dX7_send_7 (by decide))) (XE_2 wI (XE_2 wI (XE_2 (pB := pI) wR (L_aload_n (r := (some this)) 1 X dX7_send_10 rfl rfl) (L_iload_n (x := its_) 2 X dX7_send_11 rfl rfl) (fun v0 v1 st mm a b hd hc hs h => g_callVo (st := st) (cI := 8) X hT htr rfl (fun q => M_X7_asked q v1) lk_X7_asked im_X7_asked se_X7_asked ml_X7_246 rfl (by rw [hR]; exact ⟨Nat.le_of_ble_eq_true rfl, Nat.le_of_ble_eq_true rfl⟩) (Nat.le_trans hd (by decide)) ⟨hc, hs⟩ dX7_send_12 h)) (XE_2 wR (XE_1 (L_aload_n (r := (some this)) 1 X dX7_send_15 rfl rfl) (O_gr (c := 8) (j := 18) X rfl inW7 (by decide) fl_X7_59 rfl dX7_send_16)) (XE_2 wR (XE_1 (L_aload_n (r := (some this)) 1 X dX7_send_19 rfl rfl) (O_gr (c := 8) (j := 5) X rfl inW7 (by decide) fl_X7_22 rfl dX7_send_20)) (L_iload_n (x := its_) 2 X dX7_send_23 rfl rfl) (O_ai X dX7_send_24)) (O_ai X dX7_send_25)) (O_ior X dX7_send_26)) (XE_2 wR (XE_1 (L_aload_n (r := (some this)) 1 X dX7_send_27 rfl rfl) (O_gr (c := 8) (j := 6) X rfl inW7 (by decide) fl_X7_25 rfl dX7_send_28)) (L_iload_n (x := its_) 2 X dX7_send_31 rfl rfl) (O_ai X dX7_send_32)) (O_ior X dX7_send_33)) (S_goto X dX7_send_34 (by decide)) (L_iconst (v := 0) X dX7_send_37 (by decide))) (S_istore_n (ev := fun set_21 => [(3, .int set_21), (2, .int is_3), (0, va_rf (some this)), (1, .int its_)]) X dX7_send_38 rfl (by rw [hN]; decide) (fun _ => rfl)) fun set_21 =>
  (SB_let (L_iconst (v := 0) X dX7_send_39 (by decide)) (S_istore (ev := fun many_22 => [(4, .int many_22), (3, .int set_21), (2, .int is_3), (0, va_rf (some this)), (1, .int its_)]) X dX7_send_40 (by rw [hN]; decide) (fun _ => rfl)) fun many_22 =>
  (SB_let (L_iconst (v := 0) X dX7_send_42 (by decide)) (S_istore (ev := fun k_23 => [(5, .int k_23), (4, .int many_22), (3, .int set_21), (2, .int is_3), (0, va_rf (some this)), (1, .int its_)]) X dX7_send_43 (by rw [hN]; decide) (fun _ => rfl)) fun k_23 =>
  (SB_seq (ST_loop (σ := Int32 × Int32) (upd := (fun (s : Int32 × Int32) => [(5, .int s.2), (4, .int s.1), (3, .int set_21), (2, .int is_3), (0, va_rf (some this)), (1, .int its_)])) (s0 := (many_22, k_23)) (n := 2000) (fun mm a b h => GG_sub [0, 1, 2, 3, 4, 5] rfl h)
  (fun s24 => (CE_2 wI (L_iload (x := s24.2) 0 X dX7_send_45 rfl) (L_iconst (v := 5) X dX7_send_47 (by decide)) (C_lt_F X dX7_send_48 (by decide))))
  (fun s24 => (ST_post (ST_let (XE_2 wI (L_iload (x := s24.1) 1 X dX7_send_51 rfl) (XE_2 wI (XE_2 wI (L_iload_n (x := set_21) 2 X dX7_send_53 rfl rfl) (L_iload (x := s24.2) 0 X dX7_send_54 rfl) (O_ishr X dX7_send_56)) (L_iconst (v := 1) X dX7_send_57 (by decide)) (O_iand X dX7_send_58)) (O_iadd X dX7_send_59)) (S_istore (ev := fun many_33 => [(4, .int many_33), (5, .int s24.2), (3, .int set_21), (2, .int is_3), (0, va_rf (some this)), (1, .int its_)]) X dX7_send_60 (by rw [hN]; decide) (fun _ => rfl)) fun many_33 =>
  (ST_pre (env' := [(5, .int (s24.2 + 1)), (4, .int many_33), (3, .int set_21), (2, .int is_3), (0, va_rf (some this)), (1, .int its_)]) (S_iinc 1 X dX7_send_62 rfl rfl (by rw [hN]; decide) rfl)
  (ST_done (upd := (fun (s : Int32 × Int32) => [(5, .int s.2), (4, .int s.1), (3, .int set_21), (2, .int is_3), (0, va_rf (some this)), (1, .int its_)])) (s := (many_33, (s24.2 + 1))) [0, 1, 2, 3, 4, 5] rfl))) fun _ mm a b h => S_goto X dX7_send_65 (by decide) [] mm a b h))) fun s34 =>
  (SB_if (CE_not (CE_1 (XE_4 (pB := pI) wR wI wI (L_aload_n (r := (some this)) 4 X dX7_send_68 rfl rfl) (L_iload_n (x := is_3) 3 X dX7_send_69 rfl rfl) (XE_b2i (CE_2 wI (XE_2 wI (XE_1 (L_aload_n (r := (some this)) 4 X dX7_send_70 rfl rfl) (O_gi (c := 8) (j := 29) X rfl inW7 (by decide) fl_X7_146 rfl dX7_send_71)) (L_iload (x := s34.1) 1 X dX7_send_74 rfl) (O_iadd X dX7_send_76)) (L_sipush (v := (150)) X dX7_send_77 (by decide)) (C_le_F X dX7_send_80 (by decide))) (S_b1 X dX7_send_83 dX7_send_84 (by decide)) (S_b0 X dX7_send_87)) (L_iconst (v := 1) X dX7_send_88 (by decide)) (fun v0 v1 v2 v3 st mm a b hd hc hs h => g_callVo (st := st) (cI := 8) X hT htr rfl (fun q => M_X7_goes q v1 v2 v3) lk_X7_goes im_X7_goes se_X7_goes ml_X7_153 rfl (by rw [hR]; exact ⟨Nat.le_of_ble_eq_true rfl, Nat.le_of_ble_eq_true rfl⟩) (Nat.le_trans hd (by decide)) ⟨hc, hs⟩ dX7_send_89 h)) (Z_ne_T X dX7_send_92 (by decide))))
  (SB_retI X C hr dX7_send_96 (L_iconst (v := 0) X dX7_send_95 (by decide)))
  (SB_let (L_iconst (v := 0) X dX7_send_97 (by decide)) (S_istore (ev := fun k_47 => [(5, .int k_47), (4, .int s34.1), (3, .int set_21), (2, .int is_3), (0, va_rf (some this)), (1, .int its_)]) X dX7_send_98 (by rw [hN]; decide) (fun _ => rfl)) fun k_47 =>
  (SB_seq (ST_loop (σ := Int32) (upd := (fun (s : Int32) => [(5, .int s), (4, .int s34.1), (3, .int set_21), (2, .int is_3), (0, va_rf (some this)), (1, .int its_)])) (s0 := k_47) (n := 2000) (fun mm a b h => GG_sub [0, 1, 2, 3, 4, 5] rfl h)
  (fun s48 => (CE_2 wI (L_iload (x := s48) 0 X dX7_send_100 rfl) (L_iconst (v := 5) X dX7_send_102 (by decide)) (C_lt_F X dX7_send_103 (by decide))))
  (fun s48 => (ST_post (ST_seq (ST_if (CE_2 wI (XE_2 wI (XE_2 wI (L_iload_n (x := set_21) 2 X dX7_send_106 rfl rfl) (L_iload (x := s48) 0 X dX7_send_107 rfl) (O_ishr X dX7_send_109)) (L_iconst (v := 1) X dX7_send_110 (by decide)) (O_iand X dX7_send_111)) (L_iconst (v := 1) X dX7_send_112 (by decide)) (C_eq_F X dX7_send_113 (by decide)))
  (ST_do (XE_5 (pB := pU) wR wI wI wI (L_aload_n (r := (some this)) 4 X dX7_send_116 rfl rfl) (XE_2 wR (XE_1 (L_aload_n (r := (some this)) 4 X dX7_send_117 rfl rfl) (O_gr (c := 8) (j := 4) X rfl inW7 (by decide) fl_X7_19 rfl dX7_send_118)) (L_iload_n (x := its_) 5 X dX7_send_121 rfl rfl) (O_ai X dX7_send_122)) (L_iload (x := s48) 0 X dX7_send_123 rfl) (L_iload_n (x := its_) 5 X dX7_send_125 rfl rfl) (XE_2 wR (XE_1 (L_aload_n (r := (some this)) 4 X dX7_send_126 rfl rfl) (O_gr (c := 8) (j := 5) X rfl inW7 (by decide) fl_X7_22 rfl dX7_send_127)) (L_iload_n (x := its_) 5 X dX7_send_130 rfl rfl) (O_ai X dX7_send_131)) (fun v0 v1 v2 v3 v4 st mm a b hd hc hs h => g_callVo (st := st) (cI := 8) X hT htr rfl (fun q => M_X7_requests q v1 v2 v3 v4) lk_X7_requests im_X7_requests se_X7_requests ml_X7_249 rfl (by rw [hR]; exact ⟨Nat.le_of_ble_eq_true rfl, Nat.le_of_ble_eq_true rfl⟩) (Nat.le_trans hd (by decide)) ⟨hc, hs⟩ dX7_send_132 h))
  (ST_done (upd := (fun (s : Unit) => [(5, .int s48), (4, .int s34.1), (3, .int set_21), (2, .int is_3), (0, va_rf (some this)), (1, .int its_)])) (s := ()) [0, 1, 2, 3, 4, 5] rfl))
  (ST_done (upd := (fun (s : Unit) => [(5, .int s48), (4, .int s34.1), (3, .int set_21), (2, .int is_3), (0, va_rf (some this)), (1, .int its_)])) (s := ()) [0, 1, 2, 3, 4, 5] rfl)) fun s69 =>
  (ST_pre (env' := [(5, .int (s48 + 1)), (4, .int s34.1), (3, .int set_21), (2, .int is_3), (0, va_rf (some this)), (1, .int its_)]) (S_iinc 0 X dX7_send_135 rfl rfl (by rw [hN]; decide) rfl)
  (ST_done (upd := (fun (s : Int32) => [(5, .int s), (4, .int s34.1), (3, .int set_21), (2, .int is_3), (0, va_rf (some this)), (1, .int its_)])) (s := (s48 + 1)) [0, 1, 2, 3, 4, 5] rfl))) fun _ mm a b h => S_goto X dX7_send_138 (by decide) [] mm a b h))) fun s70 =>
  (SB_do (XE_3 wR wI (XE_1 (L_aload_n (r := (some this)) 4 X dX7_send_141 rfl rfl) (O_gr (c := 8) (j := 6) X rfl inW7 (by decide) fl_X7_25 rfl dX7_send_142)) (L_iload_n (x := its_) 5 X dX7_send_145 rfl rfl) (L_iload_n (x := set_21) 2 X dX7_send_146 rfl rfl) (O_sai X dX7_send_147))
  (SB_retI X C hr dX7_send_150 (L_iload (x := s34.1) 1 X dX7_send_148 rfl))))))))))) h (by rw [hR]; decide) (by rw [hR]; decide)
theorem dX7_replies_0 : decode cX7_replies 0 = .ok (.aload_n 0, 1) := by decide +kernel
theorem dX7_replies_1 : decode cX7_replies 1 = .ok (.iconst 1, 1) := by decide +kernel
theorem dX7_replies_2 : decode cX7_replies 2 = .ok (.iload_n 1, 1) := by decide +kernel
theorem dX7_replies_3 : decode cX7_replies 3 = .ok (.aload_n 0, 1) := by decide +kernel
theorem dX7_replies_4 : decode cX7_replies 4 = .ok (.getfield 19, 3) := by decide +kernel
theorem dX7_replies_7 : decode cX7_replies 7 = .ok (.iload_n 2, 1) := by decide +kernel
theorem dX7_replies_8 : decode cX7_replies 8 = .ok (.iaload, 1) := by decide +kernel
theorem dX7_replies_9 : decode cX7_replies 9 = .ok (.iload_n 2, 1) := by decide +kernel
theorem dX7_replies_10 : decode cX7_replies 10 = .ok (.invokevirtual 242, 3) := by decide +kernel
theorem dX7_replies_13 : decode cX7_replies 13 = .ok (.istore 5, 2) := by decide +kernel
theorem dX7_replies_15 : decode cX7_replies 15 = .ok (.aload_n 0, 1) := by decide +kernel
theorem dX7_replies_16 : decode cX7_replies 16 = .ok (.getfield 108, 3) := by decide +kernel
theorem dX7_replies_19 : decode cX7_replies 19 = .ok (.iload 5, 2) := by decide +kernel
theorem dX7_replies_21 : decode cX7_replies 21 = .ok (.aload_n 0, 1) := by decide +kernel
theorem dX7_replies_22 : decode cX7_replies 22 = .ok (.getfield 32, 3) := by decide +kernel
theorem dX7_replies_25 : decode cX7_replies 25 = .ok (.aload_n 0, 1) := by decide +kernel
theorem dX7_replies_26 : decode cX7_replies 26 = .ok (.getfield 81, 3) := by decide +kernel
theorem dX7_replies_29 : decode cX7_replies 29 = .ok (.iload_n 1, 1) := by decide +kernel
theorem dX7_replies_30 : decode cX7_replies 30 = .ok (.iload_n 2, 1) := by decide +kernel
theorem dX7_replies_31 : decode cX7_replies 31 = .ok (.invokestatic 171, 3) := by decide +kernel
theorem dX7_replies_34 : decode cX7_replies 34 = .ok (.iaload, 1) := by decide +kernel
theorem dX7_replies_35 : decode cX7_replies 35 = .ok (.iaload, 1) := by decide +kernel
theorem dX7_replies_36 : decode cX7_replies 36 = .ok (.iastore, 1) := by decide +kernel
theorem dX7_replies_37 : decode cX7_replies 37 = .ok (.aload_n 0, 1) := by decide +kernel
theorem dX7_replies_38 : decode cX7_replies 38 = .ok (.getfield 111, 3) := by decide +kernel
theorem dX7_replies_41 : decode cX7_replies 41 = .ok (.iload 5, 2) := by decide +kernel
theorem dX7_replies_43 : decode cX7_replies 43 = .ok (.iload_n 3, 1) := by decide +kernel
theorem dX7_replies_44 : decode cX7_replies 44 = .ok (.iastore, 1) := by decide +kernel
theorem dX7_replies_45 : decode cX7_replies 45 = .ok (.aload_n 0, 1) := by decide +kernel
theorem dX7_replies_46 : decode cX7_replies 46 = .ok (.getfield 114, 3) := by decide +kernel
theorem dX7_replies_49 : decode cX7_replies 49 = .ok (.iload 5, 2) := by decide +kernel
theorem dX7_replies_51 : decode cX7_replies 51 = .ok (.iload 4, 2) := by decide +kernel
theorem dX7_replies_53 : decode cX7_replies 53 = .ok (.iastore, 1) := by decide +kernel
theorem dX7_replies_54 : decode cX7_replies 54 = .ok (.aload_n 0, 1) := by decide +kernel
theorem dX7_replies_55 : decode cX7_replies 55 = .ok (.getfield 117, 3) := by decide +kernel
theorem dX7_replies_58 : decode cX7_replies 58 = .ok (.iload 5, 2) := by decide +kernel
theorem dX7_replies_60 : decode cX7_replies 60 = .ok (.aload_n 0, 1) := by decide +kernel
theorem dX7_replies_61 : decode cX7_replies 61 = .ok (.getfield 253, 3) := by decide +kernel
theorem dX7_replies_64 : decode cX7_replies 64 = .ok (.iastore, 1) := by decide +kernel
theorem dX7_replies_65 : decode cX7_replies 65 = .ok (.aload_n 0, 1) := by decide +kernel
theorem dX7_replies_66 : decode cX7_replies 66 = .ok (.dup, 1) := by decide +kernel
theorem dX7_replies_67 : decode cX7_replies 67 = .ok (.getfield 253, 3) := by decide +kernel
theorem dX7_replies_70 : decode cX7_replies 70 = .ok (.iconst 1, 1) := by decide +kernel
theorem dX7_replies_71 : decode cX7_replies 71 = .ok (.iadd, 1) := by decide +kernel
theorem dX7_replies_72 : decode cX7_replies 72 = .ok (.putfield 253, 3) := by decide +kernel
theorem dX7_replies_75 : decode cX7_replies 75 = .ok (.aload_n 0, 1) := by decide +kernel
theorem dX7_replies_76 : decode cX7_replies 76 = .ok (.iload_n 1, 1) := by decide +kernel
theorem dX7_replies_77 : decode cX7_replies 77 = .ok (.iload_n 2, 1) := by decide +kernel
theorem dX7_replies_78 : decode cX7_replies 78 = .ok (.invokevirtual 191, 3) := by decide +kernel
theorem dX7_replies_81 : decode cX7_replies 81 = .ok (.iload 5, 2) := by decide +kernel
theorem dX7_replies_83 : decode cX7_replies 83 = .ok (.ireturn, 1) := by decide +kernel
theorem lk_X7_replies : LK yX7_replies cX7_replies 6 (some .int) 4 := ⟨qW_at 1620 (by decide +kernel) rfl, qW_at 78 (by decide +kernel) rfl, by decide, by decide, by decide +kernel⟩
theorem im_X7_replies : Cond.instanceMethod yX7_replies ∈ qW := qW_at 1619 (by decide +kernel) rfl
theorem se_X7_replies : Cond.selects RX7 yX7_replies yX7_replies ∈ qW := qW_at 51 (by decide +kernel) rfl
def F_X7_replies (this : Nat) (person_ : Int32) (its_ : Int32) (when_ : Int32) (what_ : Int32) : QX Int32 :=
  (xb (xb (xp (some this)) fun v4 => xb (xp (1 : Int32)) fun v5 => xb (xp person_) fun v6 => xb (xb (xb (xp (some this)) fun v1 => xgr 8 4 v1) fun v2 => xb (xp its_) fun v3 => xai 0 v2 v3) fun v7 => xb (xp its_) fun v8 => xo 8 v4 fun q => F_X7_adds q v5 v6 v7 v8) fun message_9 =>
  (xb (xb (xb (xp (some this)) fun v10 => xgr 8 36 v10) fun v19 => xb (xp message_9) fun v20 => xb (xb (xb (xp (some this)) fun v11 => xgr 8 9 v11) fun v17 => xb (xb (xb (xp (some this)) fun v12 => xgr 8 25 v12) fun v15 => xb (xb (xp person_) fun v13 => xb (xp its_) fun v14 => F_X7_at v13 v14) fun v16 => xai 0 v15 v16) fun v18 => xai 0 v17 v18) fun v21 => xsai v19 v20 v21) fun _ =>
  (xb (xb (xb (xp (some this)) fun v22 => xgr 8 37 v22) fun v23 => xb (xp message_9) fun v24 => xb (xp when_) fun v25 => xsai v23 v24 v25) fun _ =>
  (xb (xb (xb (xp (some this)) fun v26 => xgr 8 38 v26) fun v27 => xb (xp message_9) fun v28 => xb (xp what_) fun v29 => xsai v27 v28 v29) fun _ =>
  (xb (xb (xb (xp (some this)) fun v30 => xgr 8 39 v30) fun v32 => xb (xp message_9) fun v33 => xb (xb (xp (some this)) fun v31 => xgi 8 30 v31) fun v34 => xsai v32 v33 v34) fun _ =>
  (xb (xb (xp (some this)) fun v35 => xb (xgi 8 30 v35) fun v36 => xb (xp (1 : Int32)) fun v37 => xb (xp (v36 + v37)) fun v38 => xsi 8 30 v35 v38) fun _ =>
  (xb (xb (xp (some this)) fun v39 => xb (xp person_) fun v40 => xb (xp its_) fun v41 => xo 8 v39 fun q => F_X7_marks q v40 v41) fun _ =>
  (xp message_9))))))))
set_option maxRecDepth 100000 in
set_option maxHeartbeats 4000000 in
theorem M_X7_replies (this : Nat) (person_ : Int32) (its_ : Int32) (when_ : Int32) (what_ : Int32) : MM yX7_replies cX7_replies 6 (some .int) 3 69 0 0 encI [.ref this, .int person_, .int its_, .int when_, .int what_] (F_X7_replies this person_ its_ when_ what_) := by
  refine MM_of (env0 := [(0, va_rf (some this)), (1, .int person_), (2, .int its_), (3, .int when_), (4, .int what_)]) (by decide) (by exact Nat.le_of_ble_eq_true rfl) (by rfl) (fun k mm res X C hR hN hr hname h => ?_)
  have X : CX k cX7_replies RX7 := X
  have hT : TH k (fun e m' => res = (.error e, m')) := TH_of C
  have htr := C.2.2.2.1
  unfold F_X7_replies at h
  exact SB_go (T := fun e m' => res = (.error e, m')) (RET := fun v m' => res = (.ok v, m')) (SB_let (XE_5 (pB := pI) wR wI wI wI (L_aload_n (r := (some this)) 0 X dX7_replies_0 rfl rfl) (L_iconst (v := 1) X dX7_replies_1 (by decide)) (L_iload_n (x := person_) 1 X dX7_replies_2 rfl rfl) (XE_2 wR (XE_1 (L_aload_n (r := (some this)) 0 X dX7_replies_3 rfl rfl) (O_gr (c := 8) (j := 4) X rfl inW7 (by decide) fl_X7_19 rfl dX7_replies_4)) (L_iload_n (x := its_) 2 X dX7_replies_7 rfl rfl) (O_ai X dX7_replies_8)) (L_iload_n (x := its_) 2 X dX7_replies_9 rfl rfl) (fun v0 v1 v2 v3 v4 st mm a b hd hc hs h => g_callVo (st := st) (cI := 8) X hT htr rfl (fun q => M_X7_adds q v1 v2 v3 v4) lk_X7_adds im_X7_adds se_X7_adds ml_X7_242 rfl (by rw [hR]; exact ⟨Nat.le_of_ble_eq_true rfl, Nat.le_of_ble_eq_true rfl⟩) (Nat.le_trans hd (by decide)) ⟨hc, hs⟩ dX7_replies_10 h)) (S_istore (ev := fun message_9 => [(5, .int message_9), (0, va_rf (some this)), (1, .int person_), (2, .int its_), (3, .int when_), (4, .int what_)]) X dX7_replies_13 (by rw [hN]; decide) (fun _ => rfl)) fun message_9 =>
  (SB_do (XE_3 wR wI (XE_1 (L_aload_n (r := (some this)) 1 X dX7_replies_15 rfl rfl) (O_gr (c := 8) (j := 36) X rfl inW7 (by decide) fl_X7_108 rfl dX7_replies_16)) (L_iload (x := message_9) 0 X dX7_replies_19 rfl) (XE_2 wR (XE_1 (L_aload_n (r := (some this)) 1 X dX7_replies_21 rfl rfl) (O_gr (c := 8) (j := 9) X rfl inW7 (by decide) fl_X7_32 rfl dX7_replies_22)) (XE_2 wR (XE_1 (L_aload_n (r := (some this)) 1 X dX7_replies_25 rfl rfl) (O_gr (c := 8) (j := 25) X rfl inW7 (by decide) fl_X7_81 rfl dX7_replies_26)) (XE_2 (pB := pI) wI (L_iload_n (x := person_) 2 X dX7_replies_29 rfl rfl) (L_iload_n (x := its_) 3 X dX7_replies_30 rfl rfl) (fun v0 v1 st mm a b hd hc hs h => g_callS (st := st) X hT htr (M_X7_at v0 v1) lk_X7_at st_X7_at ml_X7_171 rfl (by rw [hR]; exact ⟨Nat.le_of_ble_eq_true rfl, Nat.le_of_ble_eq_true rfl⟩) (Nat.le_trans hd (by decide)) ⟨hc, hs⟩ dX7_replies_31 h)) (O_ai X dX7_replies_34)) (O_ai X dX7_replies_35)) (O_sai X dX7_replies_36))
  (SB_do (XE_3 wR wI (XE_1 (L_aload_n (r := (some this)) 1 X dX7_replies_37 rfl rfl) (O_gr (c := 8) (j := 37) X rfl inW7 (by decide) fl_X7_111 rfl dX7_replies_38)) (L_iload (x := message_9) 0 X dX7_replies_41 rfl) (L_iload_n (x := when_) 4 X dX7_replies_43 rfl rfl) (O_sai X dX7_replies_44))
  (SB_do (XE_3 wR wI (XE_1 (L_aload_n (r := (some this)) 1 X dX7_replies_45 rfl rfl) (O_gr (c := 8) (j := 38) X rfl inW7 (by decide) fl_X7_114 rfl dX7_replies_46)) (L_iload (x := message_9) 0 X dX7_replies_49 rfl) (L_iload (x := what_) 5 X dX7_replies_51 rfl) (O_sai X dX7_replies_53))
  (SB_do (XE_3 wR wI (XE_1 (L_aload_n (r := (some this)) 1 X dX7_replies_54 rfl rfl) (O_gr (c := 8) (j := 39) X rfl inW7 (by decide) fl_X7_117 rfl dX7_replies_55)) (L_iload (x := message_9) 0 X dX7_replies_58 rfl) (XE_1 (L_aload_n (r := (some this)) 1 X dX7_replies_60 rfl rfl) (O_gi (c := 8) (j := 30) X rfl inW7 (by decide) fl_X7_253 rfl dX7_replies_61)) (O_sai X dX7_replies_64))
  (SB_do (XE_dup wI (L_aload_n (r := (some this)) 1 X dX7_replies_65 rfl rfl) (S_dup X dX7_replies_66) (O_gi (c := 8) (j := 30) X rfl inW7 (by decide) fl_X7_253 rfl dX7_replies_67) (L_iconst (v := 1) X dX7_replies_70 (by decide)) (O_iadd X dX7_replies_71) (O_si (c := 8) (j := 30) tyX7 X rfl inW7 tyX7_ok nmX7 (by decide) fl_X7_253 (Or.inl rfl) rfl (by decide +kernel) dX7_replies_72))
  (SB_do (XE_3 (pB := pU) wR wI (L_aload_n (r := (some this)) 1 X dX7_replies_75 rfl rfl) (L_iload_n (x := person_) 2 X dX7_replies_76 rfl rfl) (L_iload_n (x := its_) 3 X dX7_replies_77 rfl rfl) (fun v0 v1 v2 st mm a b hd hc hs h => g_callVo (st := st) (cI := 8) X hT htr rfl (fun q => M_X7_marks q v1 v2) lk_X7_marks im_X7_marks se_X7_marks ml_X7_191 rfl (by rw [hR]; exact ⟨Nat.le_of_ble_eq_true rfl, Nat.le_of_ble_eq_true rfl⟩) (Nat.le_trans hd (by decide)) ⟨hc, hs⟩ dX7_replies_78 h))
  (SB_retI X C hr dX7_replies_83 (L_iload (x := message_9) 0 X dX7_replies_81 rfl))))))))) h (by rw [hR]; decide) (by rw [hR]; decide)
theorem dX7_hasCopy_0 : decode cX7_hasCopy 0 = .ok (.aload_n 0, 1) := by decide +kernel
theorem dX7_hasCopy_1 : decode cX7_hasCopy 1 = .ok (.getfield 19, 3) := by decide +kernel
theorem dX7_hasCopy_4 : decode cX7_hasCopy 4 = .ok (.iload_n 2, 1) := by decide +kernel
theorem dX7_hasCopy_5 : decode cX7_hasCopy 5 = .ok (.iaload, 1) := by decide +kernel
theorem dX7_hasCopy_6 : decode cX7_hasCopy 6 = .ok (.iload_n 1, 1) := by decide +kernel
theorem dX7_hasCopy_7 : decode cX7_hasCopy 7 = .ok (.if_icmp .eq 16, 3) := by decide +kernel
theorem dX7_hasCopy_10 : decode cX7_hasCopy 10 = .ok (.aload_n 0, 1) := by decide +kernel
theorem dX7_hasCopy_11 : decode cX7_hasCopy 11 = .ok (.iload_n 1, 1) := by decide +kernel
theorem dX7_hasCopy_12 : decode cX7_hasCopy 12 = .ok (.iload_n 2, 1) := by decide +kernel
theorem dX7_hasCopy_13 : decode cX7_hasCopy 13 = .ok (.invokevirtual 174, 3) := by decide +kernel
theorem dX7_hasCopy_16 : decode cX7_hasCopy 16 = .ok (.ifCond .eq 7, 3) := by decide +kernel
theorem dX7_hasCopy_19 : decode cX7_hasCopy 19 = .ok (.iconst 1, 1) := by decide +kernel
theorem dX7_hasCopy_20 : decode cX7_hasCopy 20 = .ok (.goto 4, 3) := by decide +kernel
theorem dX7_hasCopy_23 : decode cX7_hasCopy 23 = .ok (.iconst 0, 1) := by decide +kernel
theorem dX7_hasCopy_24 : decode cX7_hasCopy 24 = .ok (.ireturn, 1) := by decide +kernel
theorem lk_X7_hasCopy : LK yX7_hasCopy cX7_hasCopy 3 (some .boolean) 2 := ⟨qW_at 1612 (by decide +kernel) rfl, qW_at 78 (by decide +kernel) rfl, by decide, by decide, by decide +kernel⟩
theorem im_X7_hasCopy : Cond.instanceMethod yX7_hasCopy ∈ qW := qW_at 1611 (by decide +kernel) rfl
theorem se_X7_hasCopy : Cond.selects RX7 yX7_hasCopy yX7_hasCopy ∈ qW := qW_at 49 (by decide +kernel) rfl
def F_X7_hasCopy (this : Nat) (person_ : Int32) (its_ : Int32) : QX Int32 :=
  (xb (xb (xb (xb (xb (xb (xp (some this)) fun v1 => xgr 8 4 v1) fun v2 => xb (xp its_) fun v3 => xai 0 v2 v3) fun v4 => xb (xp person_) fun v5 => xp (decide (¬ v4 = v5))) fun v10 => if v10 then (xb (xb (xp (some this)) fun v6 => xb (xp person_) fun v7 => xb (xp its_) fun v8 => xo 8 v6 fun q => F_X7_isHere q v7 v8) fun v9 => xp (decide (¬ v9 = 0))) else xp false) fun v11 => xp (b2i v11)) xz)
set_option maxRecDepth 100000 in
set_option maxHeartbeats 4000000 in
theorem M_X7_hasCopy (this : Nat) (person_ : Int32) (its_ : Int32) : MM yX7_hasCopy cX7_hasCopy 3 (some .boolean) 2 44 0 0 encI [.ref this, .int person_, .int its_] (F_X7_hasCopy this person_ its_) := by
  refine MM_of (env0 := [(0, va_rf (some this)), (1, .int person_), (2, .int its_)]) (by decide) (by exact Nat.le_of_ble_eq_true rfl) (by rfl) (fun k mm res X C hR hN hr hname h => ?_)
  have X : CX k cX7_hasCopy RX7 := X
  have hT : TH k (fun e m' => res = (.error e, m')) := TH_of C
  have htr := C.2.2.2.1
  unfold F_X7_hasCopy at h
  exact SB_go (T := fun e m' => res = (.error e, m')) (RET := fun v m' => res = (.ok v, m')) (SB_retZ X C hr dX7_hasCopy_24 (XE_b2i (CE_and (CE_2 wI (XE_2 wR (XE_1 (L_aload_n (r := (some this)) 0 X dX7_hasCopy_0 rfl rfl) (O_gr (c := 8) (j := 4) X rfl inW7 (by decide) fl_X7_19 rfl dX7_hasCopy_1)) (L_iload_n (x := its_) 2 X dX7_hasCopy_4 rfl rfl) (O_ai X dX7_hasCopy_5)) (L_iload_n (x := person_) 1 X dX7_hasCopy_6 rfl rfl) (C_ne_F X dX7_hasCopy_7 (by decide))) (CE_1 (XE_3 (pB := pI) wR wI (L_aload_n (r := (some this)) 0 X dX7_hasCopy_10 rfl rfl) (L_iload_n (x := person_) 1 X dX7_hasCopy_11 rfl rfl) (L_iload_n (x := its_) 2 X dX7_hasCopy_12 rfl rfl) (fun v0 v1 v2 st mm a b hd hc hs h => g_callVo (st := st) (cI := 8) X hT htr rfl (fun q => M_X7_isHere q v1 v2) lk_X7_isHere im_X7_isHere se_X7_isHere ml_X7_174 rfl (by rw [hR]; exact ⟨Nat.le_of_ble_eq_true rfl, Nat.le_of_ble_eq_true rfl⟩) (Nat.le_trans hd (by decide)) ⟨hc, hs⟩ dX7_hasCopy_13 h)) (Z_ne_F X dX7_hasCopy_16 (by decide)))) (S_b1 X dX7_hasCopy_19 dX7_hasCopy_20 (by decide)) (S_b0 X dX7_hasCopy_23))) h (by rw [hR]; decide) (by rw [hR]; decide)
theorem dX7_hasDate_0 : decode cX7_hasDate 0 = .ok (.aload_n 0, 1) := by decide +kernel
theorem dX7_hasDate_1 : decode cX7_hasDate 1 = .ok (.getfield 75, 3) := by decide +kernel
theorem dX7_hasDate_4 : decode cX7_hasDate 4 = .ok (.aload_n 0, 1) := by decide +kernel
theorem dX7_hasDate_5 : decode cX7_hasDate 5 = .ok (.getfield 81, 3) := by decide +kernel
theorem dX7_hasDate_8 : decode cX7_hasDate 8 = .ok (.iload_n 1, 1) := by decide +kernel
theorem dX7_hasDate_9 : decode cX7_hasDate 9 = .ok (.iload_n 2, 1) := by decide +kernel
theorem dX7_hasDate_10 : decode cX7_hasDate 10 = .ok (.invokestatic 171, 3) := by decide +kernel
theorem dX7_hasDate_13 : decode cX7_hasDate 13 = .ok (.iaload, 1) := by decide +kernel
theorem dX7_hasDate_14 : decode cX7_hasDate 14 = .ok (.laload, 1) := by decide +kernel
theorem dX7_hasDate_15 : decode cX7_hasDate 15 = .ok (.iload_n 3, 1) := by decide +kernel
theorem dX7_hasDate_16 : decode cX7_hasDate 16 = .ok (.invokestatic 180, 3) := by decide +kernel
theorem dX7_hasDate_19 : decode cX7_hasDate 19 = .ok (.ireturn, 1) := by decide +kernel
theorem lk_X7_hasDate : LK yX7_hasDate cX7_hasDate 4 (some .boolean) 3 := ⟨qW_at 1616 (by decide +kernel) rfl, qW_at 78 (by decide +kernel) rfl, by decide, by decide, by decide +kernel⟩
theorem im_X7_hasDate : Cond.instanceMethod yX7_hasDate ∈ qW := qW_at 1615 (by decide +kernel) rfl
theorem se_X7_hasDate : Cond.selects RX7 yX7_hasDate yX7_hasDate ∈ qW := qW_at 50 (by decide +kernel) rfl
def F_X7_hasDate (this : Nat) (person_ : Int32) (its_ : Int32) (when_ : Int32) : QX Int32 :=
  (xb (xb (xb (xb (xp (some this)) fun v1 => xgr 8 23 v1) fun v7 => xb (xb (xb (xp (some this)) fun v2 => xgr 8 25 v2) fun v5 => xb (xb (xp person_) fun v3 => xb (xp its_) fun v4 => F_X7_at v3 v4) fun v6 => xai 0 v5 v6) fun v8 => xal v7 v8) fun v9 => xb (xp when_) fun v10 => F_X7_has v9 v10) xz)
set_option maxRecDepth 100000 in
set_option maxHeartbeats 4000000 in
theorem M_X7_hasDate (this : Nat) (person_ : Int32) (its_ : Int32) (when_ : Int32) : MM yX7_hasDate cX7_hasDate 4 (some .boolean) 1 22 0 0 encI [.ref this, .int person_, .int its_, .int when_] (F_X7_hasDate this person_ its_ when_) := by
  refine MM_of (env0 := [(0, va_rf (some this)), (1, .int person_), (2, .int its_), (3, .int when_)]) (by decide) (by exact Nat.le_of_ble_eq_true rfl) (by rfl) (fun k mm res X C hR hN hr hname h => ?_)
  have X : CX k cX7_hasDate RX7 := X
  have hT : TH k (fun e m' => res = (.error e, m')) := TH_of C
  have htr := C.2.2.2.1
  unfold F_X7_hasDate at h
  exact SB_go (T := fun e m' => res = (.error e, m')) (RET := fun v m' => res = (.ok v, m')) (SB_retZ X C hr dX7_hasDate_19 (XE_2 (pB := pI) wL (XE_2 wR (XE_1 (L_aload_n (r := (some this)) 0 X dX7_hasDate_0 rfl rfl) (O_gr (c := 8) (j := 23) X rfl inW7 (by decide) fl_X7_75 rfl dX7_hasDate_1)) (XE_2 wR (XE_1 (L_aload_n (r := (some this)) 0 X dX7_hasDate_4 rfl rfl) (O_gr (c := 8) (j := 25) X rfl inW7 (by decide) fl_X7_81 rfl dX7_hasDate_5)) (XE_2 (pB := pI) wI (L_iload_n (x := person_) 1 X dX7_hasDate_8 rfl rfl) (L_iload_n (x := its_) 2 X dX7_hasDate_9 rfl rfl) (fun v0 v1 st mm a b hd hc hs h => g_callS (st := st) X hT htr (M_X7_at v0 v1) lk_X7_at st_X7_at ml_X7_171 rfl (by rw [hR]; exact ⟨Nat.le_of_ble_eq_true rfl, Nat.le_of_ble_eq_true rfl⟩) (Nat.le_trans hd (by decide)) ⟨hc, hs⟩ dX7_hasDate_10 h)) (O_ai X dX7_hasDate_13)) (O_al X dX7_hasDate_14)) (L_iload_n (x := when_) 3 X dX7_hasDate_15 rfl rfl) (fun v0 v1 st mm a b hd hc hs h => g_callS (st := st) X hT htr (M_X7_has v0 v1) lk_X7_has st_X7_has ml_X7_180 rfl (by rw [hR]; exact ⟨Nat.le_of_ble_eq_true rfl, Nat.le_of_ble_eq_true rfl⟩) (Nat.le_trans hd (by decide)) ⟨hc, hs⟩ dX7_hasDate_16 h))) h (by rw [hR]; decide) (by rw [hR]; decide)
theorem dX7_answer_0 : decode cX7_answer 0 = .ok (.iload_n 1, 1) := by decide +kernel
theorem dX7_answer_1 : decode cX7_answer 1 = .ok (.invokestatic 202, 3) := by decide +kernel
theorem dX7_answer_4 : decode cX7_answer 4 = .ok (.ifCond .eq 15, 3) := by decide +kernel
theorem dX7_answer_7 : decode cX7_answer 7 = .ok (.aload_n 0, 1) := by decide +kernel
theorem dX7_answer_8 : decode cX7_answer 8 = .ok (.iload_n 2, 1) := by decide +kernel
theorem dX7_answer_9 : decode cX7_answer 9 = .ok (.invokevirtual 211, 3) := by decide +kernel
theorem dX7_answer_12 : decode cX7_answer 12 = .ok (.ifCond .eq 7, 3) := by decide +kernel
theorem dX7_answer_15 : decode cX7_answer 15 = .ok (.iconst 1, 1) := by decide +kernel
theorem dX7_answer_16 : decode cX7_answer 16 = .ok (.goto 4, 3) := by decide +kernel
theorem dX7_answer_19 : decode cX7_answer 19 = .ok (.iconst 0, 1) := by decide +kernel
theorem dX7_answer_20 : decode cX7_answer 20 = .ok (.istore 5, 2) := by decide +kernel
theorem dX7_answer_22 : decode cX7_answer 22 = .ok (.iload_n 3, 1) := by decide +kernel
theorem dX7_answer_23 : decode cX7_answer 23 = .ok (.iconst (-1), 1) := by decide +kernel
theorem dX7_answer_24 : decode cX7_answer 24 = .ok (.if_icmp .eq 10, 3) := by decide +kernel
theorem dX7_answer_27 : decode cX7_answer 27 = .ok (.iload_n 3, 1) := by decide +kernel
theorem dX7_answer_28 : decode cX7_answer 28 = .ok (.invokestatic 157, 3) := by decide +kernel
theorem dX7_answer_31 : decode cX7_answer 31 = .ok (.ifCond .eq 17, 3) := by decide +kernel
theorem dX7_answer_34 : decode cX7_answer 34 = .ok (.iload 4, 2) := by decide +kernel
theorem dX7_answer_36 : decode cX7_answer 36 = .ok (.iconst 1, 1) := by decide +kernel
theorem dX7_answer_37 : decode cX7_answer 37 = .ok (.iconst 3, 1) := by decide +kernel
theorem dX7_answer_38 : decode cX7_answer 38 = .ok (.invokestatic 139, 3) := by decide +kernel
theorem dX7_answer_41 : decode cX7_answer 41 = .ok (.ifCond .eq 7, 3) := by decide +kernel
theorem dX7_answer_44 : decode cX7_answer 44 = .ok (.iconst 1, 1) := by decide +kernel
theorem dX7_answer_45 : decode cX7_answer 45 = .ok (.goto 4, 3) := by decide +kernel
theorem dX7_answer_48 : decode cX7_answer 48 = .ok (.iconst 0, 1) := by decide +kernel
theorem dX7_answer_49 : decode cX7_answer 49 = .ok (.istore 6, 2) := by decide +kernel
theorem dX7_answer_51 : decode cX7_answer 51 = .ok (.iload 5, 2) := by decide +kernel
theorem dX7_answer_53 : decode cX7_answer 53 = .ok (.ifCond .eq 36, 3) := by decide +kernel
theorem dX7_answer_56 : decode cX7_answer 56 = .ok (.iload 6, 2) := by decide +kernel
theorem dX7_answer_58 : decode cX7_answer 58 = .ok (.ifCond .eq 31, 3) := by decide +kernel
theorem dX7_answer_61 : decode cX7_answer 61 = .ok (.aload_n 0, 1) := by decide +kernel
theorem dX7_answer_62 : decode cX7_answer 62 = .ok (.iload_n 1, 1) := by decide +kernel
theorem dX7_answer_63 : decode cX7_answer 63 = .ok (.iload_n 2, 1) := by decide +kernel
theorem dX7_answer_64 : decode cX7_answer 64 = .ok (.invokevirtual 256, 3) := by decide +kernel
theorem dX7_answer_67 : decode cX7_answer 67 = .ok (.ifCond .eq 22, 3) := by decide +kernel
theorem dX7_answer_70 : decode cX7_answer 70 = .ok (.iload_n 3, 1) := by decide +kernel
theorem dX7_answer_71 : decode cX7_answer 71 = .ok (.iconst (-1), 1) := by decide +kernel
theorem dX7_answer_72 : decode cX7_answer 72 = .ok (.if_icmp .eq 13, 3) := by decide +kernel
theorem dX7_answer_75 : decode cX7_answer 75 = .ok (.aload_n 0, 1) := by decide +kernel
theorem dX7_answer_76 : decode cX7_answer 76 = .ok (.iload_n 1, 1) := by decide +kernel
theorem dX7_answer_77 : decode cX7_answer 77 = .ok (.iload_n 2, 1) := by decide +kernel
theorem dX7_answer_78 : decode cX7_answer 78 = .ok (.iload_n 3, 1) := by decide +kernel
theorem dX7_answer_79 : decode cX7_answer 79 = .ok (.invokevirtual 259, 3) := by decide +kernel
theorem dX7_answer_82 : decode cX7_answer 82 = .ok (.ifCond .eq 7, 3) := by decide +kernel
theorem dX7_answer_85 : decode cX7_answer 85 = .ok (.iconst 1, 1) := by decide +kernel
theorem dX7_answer_86 : decode cX7_answer 86 = .ok (.goto 4, 3) := by decide +kernel
theorem dX7_answer_89 : decode cX7_answer 89 = .ok (.iconst 0, 1) := by decide +kernel
theorem dX7_answer_90 : decode cX7_answer 90 = .ok (.istore 7, 2) := by decide +kernel
theorem dX7_answer_92 : decode cX7_answer 92 = .ok (.aload_n 0, 1) := by decide +kernel
theorem dX7_answer_93 : decode cX7_answer 93 = .ok (.iload 5, 2) := by decide +kernel
theorem dX7_answer_95 : decode cX7_answer 95 = .ok (.iload 6, 2) := by decide +kernel
theorem dX7_answer_97 : decode cX7_answer 97 = .ok (.iload 7, 2) := by decide +kernel
theorem dX7_answer_99 : decode cX7_answer 99 = .ok (.ifCond .eq 17, 3) := by decide +kernel
theorem dX7_answer_102 : decode cX7_answer 102 = .ok (.aload_n 0, 1) := by decide +kernel
theorem dX7_answer_103 : decode cX7_answer 103 = .ok (.getfield 146, 3) := by decide +kernel
theorem dX7_answer_106 : decode cX7_answer 106 = .ok (.sipush 150, 3) := by decide +kernel
theorem dX7_answer_109 : decode cX7_answer 109 = .ok (.if_icmp .ge 7, 3) := by decide +kernel
theorem dX7_answer_112 : decode cX7_answer 112 = .ok (.iconst 1, 1) := by decide +kernel
theorem dX7_answer_113 : decode cX7_answer 113 = .ok (.goto 4, 3) := by decide +kernel
theorem dX7_answer_116 : decode cX7_answer 116 = .ok (.iconst 0, 1) := by decide +kernel
theorem dX7_answer_117 : decode cX7_answer 117 = .ok (.invokevirtual 153, 3) := by decide +kernel
theorem dX7_answer_120 : decode cX7_answer 120 = .ok (.ifCond .eq 15, 3) := by decide +kernel
theorem dX7_answer_123 : decode cX7_answer 123 = .ok (.aload_n 0, 1) := by decide +kernel
theorem dX7_answer_124 : decode cX7_answer 124 = .ok (.iload_n 1, 1) := by decide +kernel
theorem dX7_answer_125 : decode cX7_answer 125 = .ok (.iload_n 2, 1) := by decide +kernel
theorem dX7_answer_126 : decode cX7_answer 126 = .ok (.iload_n 3, 1) := by decide +kernel
theorem dX7_answer_127 : decode cX7_answer 127 = .ok (.iload 4, 2) := by decide +kernel
theorem dX7_answer_129 : decode cX7_answer 129 = .ok (.invokevirtual 262, 3) := by decide +kernel
theorem dX7_answer_132 : decode cX7_answer 132 = .ok (.goto 4, 3) := by decide +kernel
theorem dX7_answer_135 : decode cX7_answer 135 = .ok (.iconst 0, 1) := by decide +kernel
theorem dX7_answer_136 : decode cX7_answer 136 = .ok (.ireturn, 1) := by decide +kernel
theorem lk_X7_answer : LK yX7_answer cX7_answer 8 (some .int) 4 := ⟨qW_at 1608 (by decide +kernel) rfl, qW_at 78 (by decide +kernel) rfl, by decide, by decide, by decide +kernel⟩
theorem im_X7_answer : Cond.instanceMethod yX7_answer ∈ qW := qW_at 1606 (by decide +kernel) rfl
theorem se_X7_answer : Cond.selects RX7 yX7_answer yX7_answer ∈ qW := qW_at 1607 (by decide +kernel) rfl
def F_X7_answer (this : Nat) (person_ : Int32) (its_ : Int32) (when_ : Int32) (what_ : Int32) : QX Int32 :=
  (xb (xb (xb (xb (xb (xp person_) fun v1 => F_X7_isPerson v1) fun v2 => xp (decide (¬ v2 = 0))) fun v6 => if v6 then (xb (xb (xp (some this)) fun v3 => xb (xp its_) fun v4 => xo 8 v3 fun q => F_X7_isMeeting q v4) fun v5 => xp (decide (¬ v5 = 0))) else xp false) fun v7 => xp (b2i v7)) fun is_8 =>
  (xb (xb (xb (xb (xb (xp when_) fun v9 => xb (xp (-1 : Int32)) fun v10 => xp (decide (v9 = v10))) fun v13 => if v13 then xp true else (xb (xb (xp when_) fun v11 => F_X7_isDay v11) fun v12 => xp (decide (¬ v12 = 0)))) fun v18 => if v18 then (xb (xb (xp what_) fun v14 => xb (xp (1 : Int32)) fun v15 => xb (xp (3 : Int32)) fun v16 => F_X7_in v14 v15 v16) fun v17 => xp (decide (¬ v17 = 0))) else xp false) fun v19 => xp (b2i v19)) fun can_20 =>
  (xb (xb (xb (xb (xb (xb (xp is_8) fun v21 => xp (decide (¬ v21 = 0))) fun v23 => if v23 then (xb (xp can_20) fun v22 => xp (decide (¬ v22 = 0))) else xp false) fun v28 => if v28 then (xb (xb (xp (some this)) fun v24 => xb (xp person_) fun v25 => xb (xp its_) fun v26 => xo 8 v24 fun q => F_X7_hasCopy q v25 v26) fun v27 => xp (decide (¬ v27 = 0))) else xp false) fun v37 => if v37 then (xb (xb (xp when_) fun v29 => xb (xp (-1 : Int32)) fun v30 => xp (decide (v29 = v30))) fun v36 => if v36 then xp true else (xb (xb (xp (some this)) fun v31 => xb (xp person_) fun v32 => xb (xp its_) fun v33 => xb (xp when_) fun v34 => xo 8 v31 fun q => F_X7_hasDate q v32 v33 v34) fun v35 => xp (decide (¬ v35 = 0)))) else xp false) fun v38 => xp (b2i v38)) fun may_39 =>
  (xb (xb (xb (xp (some this)) fun v46 => xb (xp is_8) fun v47 => xb (xp can_20) fun v48 => xb (xb (xb (xb (xp may_39) fun v40 => xp (decide (¬ v40 = 0))) fun v44 => if v44 then (xb (xb (xp (some this)) fun v41 => xgi 8 29 v41) fun v42 => xb (xp (150 : Int32)) fun v43 => xp (decide (v42 < v43))) else xp false) fun v45 => xp (b2i v45)) fun v49 => xo 8 v46 fun q => F_X7_goes q v47 v48 v49) fun v50 => xp (decide (¬ v50 = 0))) fun v56 => if v56 then (xb (xp (some this)) fun v51 => xb (xp person_) fun v52 => xb (xp its_) fun v53 => xb (xp when_) fun v54 => xb (xp what_) fun v55 => xo 8 v51 fun q => F_X7_replies q v52 v53 v54 v55) else (xp (0 : Int32))))))
set_option maxRecDepth 100000 in
set_option maxHeartbeats 4000000 in
theorem M_X7_answer (this : Nat) (person_ : Int32) (its_ : Int32) (when_ : Int32) (what_ : Int32) : MM yX7_answer cX7_answer 8 (some .int) 4 94 0 0 encI [.ref this, .int person_, .int its_, .int when_, .int what_] (F_X7_answer this person_ its_ when_ what_) := by
  refine MM_of (env0 := [(0, va_rf (some this)), (1, .int person_), (2, .int its_), (3, .int when_), (4, .int what_)]) (by decide) (by exact Nat.le_of_ble_eq_true rfl) (by rfl) (fun k mm res X C hR hN hr hname h => ?_)
  have X : CX k cX7_answer RX7 := X
  have hT : TH k (fun e m' => res = (.error e, m')) := TH_of C
  have htr := C.2.2.2.1
  unfold F_X7_answer at h
  exact SB_go (T := fun e m' => res = (.error e, m')) (RET := fun v m' => res = (.ok v, m')) (SB_let (XE_b2i (CE_and (CE_1 (XE_1 (pB := pI)  (L_iload_n (x := person_) 1 X dX7_answer_0 rfl rfl) (fun v0 st mm a b hd hc hs h => g_callS (st := st) X hT htr (M_X7_isPerson v0) lk_X7_isPerson st_X7_isPerson ml_X7_202 rfl (by rw [hR]; exact ⟨Nat.le_of_ble_eq_true rfl, Nat.le_of_ble_eq_true rfl⟩) (Nat.le_trans hd (by decide)) ⟨hc, hs⟩ dX7_answer_1 h)) (Z_ne_F X dX7_answer_4 (by decide))) (CE_1 (XE_2 (pB := pI) wR (L_aload_n (r := (some this)) 0 X dX7_answer_7 rfl rfl) (L_iload_n (x := its_) 2 X dX7_answer_8 rfl rfl) (fun v0 v1 st mm a b hd hc hs h => g_callVo (st := st) (cI := 8) X hT htr rfl (fun q => M_X7_isMeeting q v1) lk_X7_isMeeting im_X7_isMeeting se_X7_isMeeting ml_X7_211 rfl (by rw [hR]; exact ⟨Nat.le_of_ble_eq_true rfl, Nat.le_of_ble_eq_true rfl⟩) (Nat.le_trans hd (by decide)) ⟨hc, hs⟩ dX7_answer_9 h)) (Z_ne_F X dX7_answer_12 (by decide)))) (S_b1 X dX7_answer_15 dX7_answer_16 (by decide)) (S_b0 X dX7_answer_19)) (S_istore (ev := fun is_8 => [(5, .int is_8), (0, va_rf (some this)), (1, .int person_), (2, .int its_), (3, .int when_), (4, .int what_)]) X dX7_answer_20 (by rw [hN]; decide) (fun _ => rfl)) fun is_8 =>
  (SB_let (XE_b2i (CE_and (CE_or (CE_2 wI (L_iload_n (x := when_) 4 X dX7_answer_22 rfl rfl) (L_iconst (v := (-1)) X dX7_answer_23 (by decide)) (C_eq_T X dX7_answer_24 (by decide))) (CE_1 (XE_1 (pB := pI)  (L_iload_n (x := when_) 4 X dX7_answer_27 rfl rfl) (fun v0 st mm a b hd hc hs h => g_callS (st := st) X hT htr (M_X7_isDay v0) lk_X7_isDay st_X7_isDay ml_X7_157 rfl (by rw [hR]; exact ⟨Nat.le_of_ble_eq_true rfl, Nat.le_of_ble_eq_true rfl⟩) (Nat.le_trans hd (by decide)) ⟨hc, hs⟩ dX7_answer_28 h)) (Z_ne_F X dX7_answer_31 (by decide)))) (CE_1 (XE_3 (pB := pI) wI wI (L_iload (x := what_) 5 X dX7_answer_34 rfl) (L_iconst (v := 1) X dX7_answer_36 (by decide)) (L_iconst (v := 3) X dX7_answer_37 (by decide)) (fun v0 v1 v2 st mm a b hd hc hs h => g_callS (st := st) X hT htr (M_X7_in v0 v1 v2) lk_X7_in st_X7_in ml_X7_139 rfl (by rw [hR]; exact ⟨Nat.le_of_ble_eq_true rfl, Nat.le_of_ble_eq_true rfl⟩) (Nat.le_trans hd (by decide)) ⟨hc, hs⟩ dX7_answer_38 h)) (Z_ne_F X dX7_answer_41 (by decide)))) (S_b1 X dX7_answer_44 dX7_answer_45 (by decide)) (S_b0 X dX7_answer_48)) (S_istore (ev := fun can_20 => [(6, .int can_20), (5, .int is_8), (0, va_rf (some this)), (1, .int person_), (2, .int its_), (3, .int when_), (4, .int what_)]) X dX7_answer_49 (by rw [hN]; decide) (fun _ => rfl)) fun can_20 =>
  (SB_let (XE_b2i (CE_and (CE_and (CE_and (CE_1 (L_iload (x := is_8) 1 X dX7_answer_51 rfl) (Z_ne_F X dX7_answer_53 (by decide))) (CE_1 (L_iload (x := can_20) 0 X dX7_answer_56 rfl) (Z_ne_F X dX7_answer_58 (by decide)))) (CE_1 (XE_3 (pB := pI) wR wI (L_aload_n (r := (some this)) 2 X dX7_answer_61 rfl rfl) (L_iload_n (x := person_) 3 X dX7_answer_62 rfl rfl) (L_iload_n (x := its_) 4 X dX7_answer_63 rfl rfl) (fun v0 v1 v2 st mm a b hd hc hs h => g_callVo (st := st) (cI := 8) X hT htr rfl (fun q => M_X7_hasCopy q v1 v2) lk_X7_hasCopy im_X7_hasCopy se_X7_hasCopy ml_X7_256 rfl (by rw [hR]; exact ⟨Nat.le_of_ble_eq_true rfl, Nat.le_of_ble_eq_true rfl⟩) (Nat.le_trans hd (by decide)) ⟨hc, hs⟩ dX7_answer_64 h)) (Z_ne_F X dX7_answer_67 (by decide)))) (CE_or (CE_2 wI (L_iload_n (x := when_) 5 X dX7_answer_70 rfl rfl) (L_iconst (v := (-1)) X dX7_answer_71 (by decide)) (C_eq_T X dX7_answer_72 (by decide))) (CE_1 (XE_4 (pB := pI) wR wI wI (L_aload_n (r := (some this)) 2 X dX7_answer_75 rfl rfl) (L_iload_n (x := person_) 3 X dX7_answer_76 rfl rfl) (L_iload_n (x := its_) 4 X dX7_answer_77 rfl rfl) (L_iload_n (x := when_) 5 X dX7_answer_78 rfl rfl) (fun v0 v1 v2 v3 st mm a b hd hc hs h => g_callVo (st := st) (cI := 8) X hT htr rfl (fun q => M_X7_hasDate q v1 v2 v3) lk_X7_hasDate im_X7_hasDate se_X7_hasDate ml_X7_259 rfl (by rw [hR]; exact ⟨Nat.le_of_ble_eq_true rfl, Nat.le_of_ble_eq_true rfl⟩) (Nat.le_trans hd (by decide)) ⟨hc, hs⟩ dX7_answer_79 h)) (Z_ne_F X dX7_answer_82 (by decide))))) (S_b1 X dX7_answer_85 dX7_answer_86 (by decide)) (S_b0 X dX7_answer_89)) (S_istore (ev := fun may_39 => [(7, .int may_39), (6, .int can_20), (5, .int is_8), (0, va_rf (some this)), (1, .int person_), (2, .int its_), (3, .int when_), (4, .int what_)]) X dX7_answer_90 (by rw [hN]; decide) (fun _ => rfl)) fun may_39 =>
  (SB_retI X C hr dX7_answer_136 (XE_tern (CE_1 (XE_4 (pB := pI) wR wI wI (L_aload_n (r := (some this)) 3 X dX7_answer_92 rfl rfl) (L_iload (x := is_8) 2 X dX7_answer_93 rfl) (L_iload (x := can_20) 1 X dX7_answer_95 rfl) (XE_b2i (CE_and (CE_1 (L_iload (x := may_39) 0 X dX7_answer_97 rfl) (Z_ne_F X dX7_answer_99 (by decide))) (CE_2 wI (XE_1 (L_aload_n (r := (some this)) 3 X dX7_answer_102 rfl rfl) (O_gi (c := 8) (j := 29) X rfl inW7 (by decide) fl_X7_146 rfl dX7_answer_103)) (L_sipush (v := (150)) X dX7_answer_106 (by decide)) (C_lt_F X dX7_answer_109 (by decide)))) (S_b1 X dX7_answer_112 dX7_answer_113 (by decide)) (S_b0 X dX7_answer_116)) (fun v0 v1 v2 v3 st mm a b hd hc hs h => g_callVo (st := st) (cI := 8) X hT htr rfl (fun q => M_X7_goes q v1 v2 v3) lk_X7_goes im_X7_goes se_X7_goes ml_X7_153 rfl (by rw [hR]; exact ⟨Nat.le_of_ble_eq_true rfl, Nat.le_of_ble_eq_true rfl⟩) (Nat.le_trans hd (by decide)) ⟨hc, hs⟩ dX7_answer_117 h)) (Z_ne_F X dX7_answer_120 (by decide))) (XE_5 (pB := pI) wR wI wI wI (L_aload_n (r := (some this)) 3 X dX7_answer_123 rfl rfl) (L_iload_n (x := person_) 4 X dX7_answer_124 rfl rfl) (L_iload_n (x := its_) 5 X dX7_answer_125 rfl rfl) (L_iload_n (x := when_) 6 X dX7_answer_126 rfl rfl) (L_iload (x := what_) 7 X dX7_answer_127 rfl) (fun v0 v1 v2 v3 v4 st mm a b hd hc hs h => g_callVo (st := st) (cI := 8) X hT htr rfl (fun q => M_X7_replies q v1 v2 v3 v4) lk_X7_replies im_X7_replies se_X7_replies ml_X7_262 rfl (by rw [hR]; exact ⟨Nat.le_of_ble_eq_true rfl, Nat.le_of_ble_eq_true rfl⟩) (Nat.le_trans hd (by decide)) ⟨hc, hs⟩ dX7_answer_129 h)) (S_goto X dX7_answer_132 (by decide)) (L_iconst (v := 0) X dX7_answer_135 (by decide))))))) h (by rw [hR]; decide) (by rw [hR]; decide)
theorem dX7_delegate_0 : decode cX7_delegate 0 = .ok (.iload_n 1, 1) := by decide +kernel
theorem dX7_delegate_1 : decode cX7_delegate 1 = .ok (.invokestatic 202, 3) := by decide +kernel
theorem dX7_delegate_4 : decode cX7_delegate 4 = .ok (.ifCond .eq 22, 3) := by decide +kernel
theorem dX7_delegate_7 : decode cX7_delegate 7 = .ok (.aload_n 0, 1) := by decide +kernel
theorem dX7_delegate_8 : decode cX7_delegate 8 = .ok (.iload_n 2, 1) := by decide +kernel
theorem dX7_delegate_9 : decode cX7_delegate 9 = .ok (.invokevirtual 211, 3) := by decide +kernel
theorem dX7_delegate_12 : decode cX7_delegate 12 = .ok (.ifCond .eq 14, 3) := by decide +kernel
theorem dX7_delegate_15 : decode cX7_delegate 15 = .ok (.iload_n 3, 1) := by decide +kernel
theorem dX7_delegate_16 : decode cX7_delegate 16 = .ok (.invokestatic 202, 3) := by decide +kernel
theorem dX7_delegate_19 : decode cX7_delegate 19 = .ok (.ifCond .eq 7, 3) := by decide +kernel
theorem dX7_delegate_22 : decode cX7_delegate 22 = .ok (.iconst 1, 1) := by decide +kernel
theorem dX7_delegate_23 : decode cX7_delegate 23 = .ok (.goto 4, 3) := by decide +kernel
theorem dX7_delegate_26 : decode cX7_delegate 26 = .ok (.iconst 0, 1) := by decide +kernel
theorem dX7_delegate_27 : decode cX7_delegate 27 = .ok (.istore 4, 2) := by decide +kernel
theorem dX7_delegate_29 : decode cX7_delegate 29 = .ok (.aload_n 0, 1) := by decide +kernel
theorem dX7_delegate_30 : decode cX7_delegate 30 = .ok (.iload 4, 2) := by decide +kernel
theorem dX7_delegate_32 : decode cX7_delegate 32 = .ok (.iload 4, 2) := by decide +kernel
theorem dX7_delegate_34 : decode cX7_delegate 34 = .ok (.ifCond .eq 22, 3) := by decide +kernel
theorem dX7_delegate_37 : decode cX7_delegate 37 = .ok (.iload_n 3, 1) := by decide +kernel
theorem dX7_delegate_38 : decode cX7_delegate 38 = .ok (.iload_n 1, 1) := by decide +kernel
theorem dX7_delegate_39 : decode cX7_delegate 39 = .ok (.if_icmp .eq 17, 3) := by decide +kernel
theorem dX7_delegate_42 : decode cX7_delegate 42 = .ok (.iload_n 3, 1) := by decide +kernel
theorem dX7_delegate_43 : decode cX7_delegate 43 = .ok (.aload_n 0, 1) := by decide +kernel
theorem dX7_delegate_44 : decode cX7_delegate 44 = .ok (.getfield 19, 3) := by decide +kernel
theorem dX7_delegate_47 : decode cX7_delegate 47 = .ok (.iload_n 2, 1) := by decide +kernel
theorem dX7_delegate_48 : decode cX7_delegate 48 = .ok (.iaload, 1) := by decide +kernel
theorem dX7_delegate_49 : decode cX7_delegate 49 = .ok (.if_icmp .eq 7, 3) := by decide +kernel
theorem dX7_delegate_52 : decode cX7_delegate 52 = .ok (.iconst 1, 1) := by decide +kernel
theorem dX7_delegate_53 : decode cX7_delegate 53 = .ok (.goto 4, 3) := by decide +kernel
theorem dX7_delegate_56 : decode cX7_delegate 56 = .ok (.iconst 0, 1) := by decide +kernel
theorem dX7_delegate_57 : decode cX7_delegate 57 = .ok (.iload 4, 2) := by decide +kernel
theorem dX7_delegate_59 : decode cX7_delegate 59 = .ok (.ifCond .eq 28, 3) := by decide +kernel
theorem dX7_delegate_62 : decode cX7_delegate 62 = .ok (.aload_n 0, 1) := by decide +kernel
theorem dX7_delegate_63 : decode cX7_delegate 63 = .ok (.iload_n 1, 1) := by decide +kernel
theorem dX7_delegate_64 : decode cX7_delegate 64 = .ok (.iload_n 2, 1) := by decide +kernel
theorem dX7_delegate_65 : decode cX7_delegate 65 = .ok (.invokevirtual 256, 3) := by decide +kernel
theorem dX7_delegate_68 : decode cX7_delegate 68 = .ok (.ifCond .eq 19, 3) := by decide +kernel
theorem dX7_delegate_71 : decode cX7_delegate 71 = .ok (.aload_n 0, 1) := by decide +kernel
theorem dX7_delegate_72 : decode cX7_delegate 72 = .ok (.getfield 146, 3) := by decide +kernel
theorem dX7_delegate_75 : decode cX7_delegate 75 = .ok (.iconst 2, 1) := by decide +kernel
theorem dX7_delegate_76 : decode cX7_delegate 76 = .ok (.iadd, 1) := by decide +kernel
theorem dX7_delegate_77 : decode cX7_delegate 77 = .ok (.sipush 150, 3) := by decide +kernel
theorem dX7_delegate_80 : decode cX7_delegate 80 = .ok (.if_icmp .gt 7, 3) := by decide +kernel
theorem dX7_delegate_83 : decode cX7_delegate 83 = .ok (.iconst 1, 1) := by decide +kernel
theorem dX7_delegate_84 : decode cX7_delegate 84 = .ok (.goto 4, 3) := by decide +kernel
theorem dX7_delegate_87 : decode cX7_delegate 87 = .ok (.iconst 0, 1) := by decide +kernel
theorem dX7_delegate_88 : decode cX7_delegate 88 = .ok (.invokevirtual 153, 3) := by decide +kernel
theorem dX7_delegate_91 : decode cX7_delegate 91 = .ok (.ifCond .ne 5, 3) := by decide +kernel
theorem dX7_delegate_94 : decode cX7_delegate 94 = .ok (.iconst 0, 1) := by decide +kernel
theorem dX7_delegate_95 : decode cX7_delegate 95 = .ok (.ireturn, 1) := by decide +kernel
theorem dX7_delegate_96 : decode cX7_delegate 96 = .ok (.aload_n 0, 1) := by decide +kernel
theorem dX7_delegate_97 : decode cX7_delegate 97 = .ok (.iload_n 1, 1) := by decide +kernel
theorem dX7_delegate_98 : decode cX7_delegate 98 = .ok (.iload_n 2, 1) := by decide +kernel
theorem dX7_delegate_99 : decode cX7_delegate 99 = .ok (.iconst (-1), 1) := by decide +kernel
theorem dX7_delegate_100 : decode cX7_delegate 100 = .ok (.iconst 4, 1) := by decide +kernel
theorem dX7_delegate_101 : decode cX7_delegate 101 = .ok (.invokevirtual 262, 3) := by decide +kernel
theorem dX7_delegate_104 : decode cX7_delegate 104 = .ok (.istore 5, 2) := by decide +kernel
theorem dX7_delegate_106 : decode cX7_delegate 106 = .ok (.aload_n 0, 1) := by decide +kernel
theorem dX7_delegate_107 : decode cX7_delegate 107 = .ok (.getfield 120, 3) := by decide +kernel
theorem dX7_delegate_110 : decode cX7_delegate 110 = .ok (.iload 5, 2) := by decide +kernel
theorem dX7_delegate_112 : decode cX7_delegate 112 = .ok (.iload_n 3, 1) := by decide +kernel
theorem dX7_delegate_113 : decode cX7_delegate 113 = .ok (.iastore, 1) := by decide +kernel
theorem dX7_delegate_114 : decode cX7_delegate 114 = .ok (.aload_n 0, 1) := by decide +kernel
theorem dX7_delegate_115 : decode cX7_delegate 115 = .ok (.iload_n 1, 1) := by decide +kernel
theorem dX7_delegate_116 : decode cX7_delegate 116 = .ok (.iload_n 3, 1) := by decide +kernel
theorem dX7_delegate_117 : decode cX7_delegate 117 = .ok (.iload_n 2, 1) := by decide +kernel
theorem dX7_delegate_118 : decode cX7_delegate 118 = .ok (.aload_n 0, 1) := by decide +kernel
theorem dX7_delegate_119 : decode cX7_delegate 119 = .ok (.getfield 81, 3) := by decide +kernel
theorem dX7_delegate_122 : decode cX7_delegate 122 = .ok (.iload_n 1, 1) := by decide +kernel
theorem dX7_delegate_123 : decode cX7_delegate 123 = .ok (.iload_n 2, 1) := by decide +kernel
theorem dX7_delegate_124 : decode cX7_delegate 124 = .ok (.invokestatic 171, 3) := by decide +kernel
theorem dX7_delegate_127 : decode cX7_delegate 127 = .ok (.iaload, 1) := by decide +kernel
theorem dX7_delegate_128 : decode cX7_delegate 128 = .ok (.invokevirtual 249, 3) := by decide +kernel
theorem dX7_delegate_131 : decode cX7_delegate 131 = .ok (.iload 5, 2) := by decide +kernel
theorem dX7_delegate_133 : decode cX7_delegate 133 = .ok (.ireturn, 1) := by decide +kernel
theorem lk_X7_delegate : LK yX7_delegate cX7_delegate 6 (some .int) 3 := ⟨qW_at 1624 (by decide +kernel) rfl, qW_at 78 (by decide +kernel) rfl, by decide, by decide, by decide +kernel⟩
theorem im_X7_delegate : Cond.instanceMethod yX7_delegate ∈ qW := qW_at 1622 (by decide +kernel) rfl
theorem se_X7_delegate : Cond.selects RX7 yX7_delegate yX7_delegate ∈ qW := qW_at 1623 (by decide +kernel) rfl
def F_X7_delegate (this : Nat) (person_ : Int32) (its_ : Int32) (to_ : Int32) : QX Int32 :=
  (xb (xb (xb (xb (xb (xb (xp person_) fun v1 => F_X7_isPerson v1) fun v2 => xp (decide (¬ v2 = 0))) fun v6 => if v6 then (xb (xb (xp (some this)) fun v3 => xb (xp its_) fun v4 => xo 8 v3 fun q => F_X7_isMeeting q v4) fun v5 => xp (decide (¬ v5 = 0))) else xp false) fun v9 => if v9 then (xb (xb (xp to_) fun v7 => F_X7_isPerson v7) fun v8 => xp (decide (¬ v8 = 0))) else xp false) fun v10 => xp (b2i v10)) fun is_11 =>
  (xb (xb (xb (xb (xp (some this)) fun v36 => xb (xp is_11) fun v37 => xb (xb (xb (xb (xb (xp is_11) fun v12 => xp (decide (¬ v12 = 0))) fun v15 => if v15 then (xb (xp to_) fun v13 => xb (xp person_) fun v14 => xp (decide (¬ v13 = v14))) else xp false) fun v21 => if v21 then (xb (xp to_) fun v16 => xb (xb (xb (xp (some this)) fun v17 => xgr 8 4 v17) fun v18 => xb (xp its_) fun v19 => xai 0 v18 v19) fun v20 => xp (decide (¬ v16 = v20))) else xp false) fun v22 => xp (b2i v22)) fun v38 => xb (xb (xb (xb (xb (xp is_11) fun v23 => xp (decide (¬ v23 = 0))) fun v28 => if v28 then (xb (xb (xp (some this)) fun v24 => xb (xp person_) fun v25 => xb (xp its_) fun v26 => xo 8 v24 fun q => F_X7_hasCopy q v25 v26) fun v27 => xp (decide (¬ v27 = 0))) else xp false) fun v34 => if v34 then (xb (xb (xb (xp (some this)) fun v29 => xgi 8 29 v29) fun v30 => xb (xp (2 : Int32)) fun v31 => (xp (v30 + v31))) fun v32 => xb (xp (150 : Int32)) fun v33 => xp (decide (v32 ≤ v33))) else xp false) fun v35 => xp (b2i v35)) fun v39 => xo 8 v36 fun q => F_X7_goes q v37 v38 v39) fun v40 => xp (decide (¬ v40 = 0))) fun v41 => xp (!v41)) fun v62 => if v62 then (xp (0 : Int32)) else
  (xb (xb (xp (some this)) fun v42 => xb (xp person_) fun v43 => xb (xp its_) fun v44 => xb (xp (-1 : Int32)) fun v45 => xb (xp (4 : Int32)) fun v46 => xo 8 v42 fun q => F_X7_replies q v43 v44 v45 v46) fun message_47 =>
  (xb (xb (xb (xp (some this)) fun v48 => xgr 8 40 v48) fun v49 => xb (xp message_47) fun v50 => xb (xp to_) fun v51 => xsai v49 v50 v51) fun _ =>
  (xb (xb (xp (some this)) fun v57 => xb (xp person_) fun v58 => xb (xp to_) fun v59 => xb (xp its_) fun v60 => xb (xb (xb (xp (some this)) fun v52 => xgr 8 25 v52) fun v55 => xb (xb (xp person_) fun v53 => xb (xp its_) fun v54 => F_X7_at v53 v54) fun v56 => xai 0 v55 v56) fun v61 => xo 8 v57 fun q => F_X7_requests q v58 v59 v60 v61) fun _ =>
  (xp message_47))))))
set_option maxRecDepth 100000 in
set_option maxHeartbeats 4000000 in
theorem M_X7_delegate (this : Nat) (person_ : Int32) (its_ : Int32) (to_ : Int32) : MM yX7_delegate cX7_delegate 6 (some .int) 4 94 0 0 encI [.ref this, .int person_, .int its_, .int to_] (F_X7_delegate this person_ its_ to_) := by
  refine MM_of (env0 := [(0, va_rf (some this)), (1, .int person_), (2, .int its_), (3, .int to_)]) (by decide) (by exact Nat.le_of_ble_eq_true rfl) (by rfl) (fun k mm res X C hR hN hr hname h => ?_)
  have X : CX k cX7_delegate RX7 := X
  have hT : TH k (fun e m' => res = (.error e, m')) := TH_of C
  have htr := C.2.2.2.1
  unfold F_X7_delegate at h
  exact SB_go (T := fun e m' => res = (.error e, m')) (RET := fun v m' => res = (.ok v, m')) (SB_let (XE_b2i (CE_and (CE_and (CE_1 (XE_1 (pB := pI)  (L_iload_n (x := person_) 1 X dX7_delegate_0 rfl rfl) (fun v0 st mm a b hd hc hs h => g_callS (st := st) X hT htr (M_X7_isPerson v0) lk_X7_isPerson st_X7_isPerson ml_X7_202 rfl (by rw [hR]; exact ⟨Nat.le_of_ble_eq_true rfl, Nat.le_of_ble_eq_true rfl⟩) (Nat.le_trans hd (by decide)) ⟨hc, hs⟩ dX7_delegate_1 h)) (Z_ne_F X dX7_delegate_4 (by decide))) (CE_1 (XE_2 (pB := pI) wR (L_aload_n (r := (some this)) 0 X dX7_delegate_7 rfl rfl) (L_iload_n (x := its_) 2 X dX7_delegate_8 rfl rfl) (fun v0 v1 st mm a b hd hc hs h => g_callVo (st := st) (cI := 8) X hT htr rfl (fun q => M_X7_isMeeting q v1) lk_X7_isMeeting im_X7_isMeeting se_X7_isMeeting ml_X7_211 rfl (by rw [hR]; exact ⟨Nat.le_of_ble_eq_true rfl, Nat.le_of_ble_eq_true rfl⟩) (Nat.le_trans hd (by decide)) ⟨hc, hs⟩ dX7_delegate_9 h)) (Z_ne_F X dX7_delegate_12 (by decide)))) (CE_1 (XE_1 (pB := pI)  (L_iload_n (x := to_) 3 X dX7_delegate_15 rfl rfl) (fun v0 st mm a b hd hc hs h => g_callS (st := st) X hT htr (M_X7_isPerson v0) lk_X7_isPerson st_X7_isPerson ml_X7_202 rfl (by rw [hR]; exact ⟨Nat.le_of_ble_eq_true rfl, Nat.le_of_ble_eq_true rfl⟩) (Nat.le_trans hd (by decide)) ⟨hc, hs⟩ dX7_delegate_16 h)) (Z_ne_F X dX7_delegate_19 (by decide)))) (S_b1 X dX7_delegate_22 dX7_delegate_23 (by decide)) (S_b0 X dX7_delegate_26)) (S_istore (ev := fun is_11 => [(4, .int is_11), (0, va_rf (some this)), (1, .int person_), (2, .int its_), (3, .int to_)]) X dX7_delegate_27 (by rw [hN]; decide) (fun _ => rfl)) fun is_11 =>
  (SB_if (CE_not (CE_1 (XE_4 (pB := pI) wR wI wI (L_aload_n (r := (some this)) 1 X dX7_delegate_29 rfl rfl) (L_iload (x := is_11) 0 X dX7_delegate_30 rfl) (XE_b2i (CE_and (CE_and (CE_1 (L_iload (x := is_11) 0 X dX7_delegate_32 rfl) (Z_ne_F X dX7_delegate_34 (by decide))) (CE_2 wI (L_iload_n (x := to_) 4 X dX7_delegate_37 rfl rfl) (L_iload_n (x := person_) 2 X dX7_delegate_38 rfl rfl) (C_ne_F X dX7_delegate_39 (by decide)))) (CE_2 wI (L_iload_n (x := to_) 4 X dX7_delegate_42 rfl rfl) (XE_2 wR (XE_1 (L_aload_n (r := (some this)) 1 X dX7_delegate_43 rfl rfl) (O_gr (c := 8) (j := 4) X rfl inW7 (by decide) fl_X7_19 rfl dX7_delegate_44)) (L_iload_n (x := its_) 3 X dX7_delegate_47 rfl rfl) (O_ai X dX7_delegate_48)) (C_ne_F X dX7_delegate_49 (by decide)))) (S_b1 X dX7_delegate_52 dX7_delegate_53 (by decide)) (S_b0 X dX7_delegate_56)) (XE_b2i (CE_and (CE_and (CE_1 (L_iload (x := is_11) 0 X dX7_delegate_57 rfl) (Z_ne_F X dX7_delegate_59 (by decide))) (CE_1 (XE_3 (pB := pI) wR wI (L_aload_n (r := (some this)) 1 X dX7_delegate_62 rfl rfl) (L_iload_n (x := person_) 2 X dX7_delegate_63 rfl rfl) (L_iload_n (x := its_) 3 X dX7_delegate_64 rfl rfl) (fun v0 v1 v2 st mm a b hd hc hs h => g_callVo (st := st) (cI := 8) X hT htr rfl (fun q => M_X7_hasCopy q v1 v2) lk_X7_hasCopy im_X7_hasCopy se_X7_hasCopy ml_X7_256 rfl (by rw [hR]; exact ⟨Nat.le_of_ble_eq_true rfl, Nat.le_of_ble_eq_true rfl⟩) (Nat.le_trans hd (by decide)) ⟨hc, hs⟩ dX7_delegate_65 h)) (Z_ne_F X dX7_delegate_68 (by decide)))) (CE_2 wI (XE_2 wI (XE_1 (L_aload_n (r := (some this)) 1 X dX7_delegate_71 rfl rfl) (O_gi (c := 8) (j := 29) X rfl inW7 (by decide) fl_X7_146 rfl dX7_delegate_72)) (L_iconst (v := 2) X dX7_delegate_75 (by decide)) (O_iadd X dX7_delegate_76)) (L_sipush (v := (150)) X dX7_delegate_77 (by decide)) (C_le_F X dX7_delegate_80 (by decide)))) (S_b1 X dX7_delegate_83 dX7_delegate_84 (by decide)) (S_b0 X dX7_delegate_87)) (fun v0 v1 v2 v3 st mm a b hd hc hs h => g_callVo (st := st) (cI := 8) X hT htr rfl (fun q => M_X7_goes q v1 v2 v3) lk_X7_goes im_X7_goes se_X7_goes ml_X7_153 rfl (by rw [hR]; exact ⟨Nat.le_of_ble_eq_true rfl, Nat.le_of_ble_eq_true rfl⟩) (Nat.le_trans hd (by decide)) ⟨hc, hs⟩ dX7_delegate_88 h)) (Z_ne_T X dX7_delegate_91 (by decide))))
  (SB_retI X C hr dX7_delegate_95 (L_iconst (v := 0) X dX7_delegate_94 (by decide)))
  (SB_let (XE_5 (pB := pI) wR wI wI wI (L_aload_n (r := (some this)) 1 X dX7_delegate_96 rfl rfl) (L_iload_n (x := person_) 2 X dX7_delegate_97 rfl rfl) (L_iload_n (x := its_) 3 X dX7_delegate_98 rfl rfl) (L_iconst (v := (-1)) X dX7_delegate_99 (by decide)) (L_iconst (v := 4) X dX7_delegate_100 (by decide)) (fun v0 v1 v2 v3 v4 st mm a b hd hc hs h => g_callVo (st := st) (cI := 8) X hT htr rfl (fun q => M_X7_replies q v1 v2 v3 v4) lk_X7_replies im_X7_replies se_X7_replies ml_X7_262 rfl (by rw [hR]; exact ⟨Nat.le_of_ble_eq_true rfl, Nat.le_of_ble_eq_true rfl⟩) (Nat.le_trans hd (by decide)) ⟨hc, hs⟩ dX7_delegate_101 h)) (S_istore (ev := fun message_47 => [(5, .int message_47), (4, .int is_11), (0, va_rf (some this)), (1, .int person_), (2, .int its_), (3, .int to_)]) X dX7_delegate_104 (by rw [hN]; decide) (fun _ => rfl)) fun message_47 =>
  (SB_do (XE_3 wR wI (XE_1 (L_aload_n (r := (some this)) 2 X dX7_delegate_106 rfl rfl) (O_gr (c := 8) (j := 40) X rfl inW7 (by decide) fl_X7_120 rfl dX7_delegate_107)) (L_iload (x := message_47) 0 X dX7_delegate_110 rfl) (L_iload_n (x := to_) 5 X dX7_delegate_112 rfl rfl) (O_sai X dX7_delegate_113))
  (SB_do (XE_5 (pB := pU) wR wI wI wI (L_aload_n (r := (some this)) 2 X dX7_delegate_114 rfl rfl) (L_iload_n (x := person_) 3 X dX7_delegate_115 rfl rfl) (L_iload_n (x := to_) 5 X dX7_delegate_116 rfl rfl) (L_iload_n (x := its_) 4 X dX7_delegate_117 rfl rfl) (XE_2 wR (XE_1 (L_aload_n (r := (some this)) 2 X dX7_delegate_118 rfl rfl) (O_gr (c := 8) (j := 25) X rfl inW7 (by decide) fl_X7_81 rfl dX7_delegate_119)) (XE_2 (pB := pI) wI (L_iload_n (x := person_) 3 X dX7_delegate_122 rfl rfl) (L_iload_n (x := its_) 4 X dX7_delegate_123 rfl rfl) (fun v0 v1 st mm a b hd hc hs h => g_callS (st := st) X hT htr (M_X7_at v0 v1) lk_X7_at st_X7_at ml_X7_171 rfl (by rw [hR]; exact ⟨Nat.le_of_ble_eq_true rfl, Nat.le_of_ble_eq_true rfl⟩) (Nat.le_trans hd (by decide)) ⟨hc, hs⟩ dX7_delegate_124 h)) (O_ai X dX7_delegate_127)) (fun v0 v1 v2 v3 v4 st mm a b hd hc hs h => g_callVo (st := st) (cI := 8) X hT htr rfl (fun q => M_X7_requests q v1 v2 v3 v4) lk_X7_requests im_X7_requests se_X7_requests ml_X7_249 rfl (by rw [hR]; exact ⟨Nat.le_of_ble_eq_true rfl, Nat.le_of_ble_eq_true rfl⟩) (Nat.le_trans hd (by decide)) ⟨hc, hs⟩ dX7_delegate_128 h))
  (SB_retI X C hr dX7_delegate_133 (L_iload (x := message_47) 0 X dX7_delegate_131 rfl))))))) h (by rw [hR]; decide) (by rw [hR]; decide)
theorem dX7_propose_0 : decode cX7_propose 0 = .ok (.iload_n 1, 1) := by decide +kernel
theorem dX7_propose_1 : decode cX7_propose 1 = .ok (.invokestatic 202, 3) := by decide +kernel
theorem dX7_propose_4 : decode cX7_propose 4 = .ok (.ifCond .eq 15, 3) := by decide +kernel
theorem dX7_propose_7 : decode cX7_propose 7 = .ok (.aload_n 0, 1) := by decide +kernel
theorem dX7_propose_8 : decode cX7_propose 8 = .ok (.iload_n 2, 1) := by decide +kernel
theorem dX7_propose_9 : decode cX7_propose 9 = .ok (.invokevirtual 211, 3) := by decide +kernel
theorem dX7_propose_12 : decode cX7_propose 12 = .ok (.ifCond .eq 7, 3) := by decide +kernel
theorem dX7_propose_15 : decode cX7_propose 15 = .ok (.iconst 1, 1) := by decide +kernel
theorem dX7_propose_16 : decode cX7_propose 16 = .ok (.goto 4, 3) := by decide +kernel
theorem dX7_propose_19 : decode cX7_propose 19 = .ok (.iconst 0, 1) := by decide +kernel
theorem dX7_propose_20 : decode cX7_propose 20 = .ok (.istore 5, 2) := by decide +kernel
theorem dX7_propose_22 : decode cX7_propose 22 = .ok (.iload_n 3, 1) := by decide +kernel
theorem dX7_propose_23 : decode cX7_propose 23 = .ok (.invokestatic 157, 3) := by decide +kernel
theorem dX7_propose_26 : decode cX7_propose 26 = .ok (.ifCond .eq 15, 3) := by decide +kernel
theorem dX7_propose_29 : decode cX7_propose 29 = .ok (.iload 4, 2) := by decide +kernel
theorem dX7_propose_31 : decode cX7_propose 31 = .ok (.invokestatic 226, 3) := by decide +kernel
theorem dX7_propose_34 : decode cX7_propose 34 = .ok (.ifCond .eq 7, 3) := by decide +kernel
theorem dX7_propose_37 : decode cX7_propose 37 = .ok (.iconst 1, 1) := by decide +kernel
theorem dX7_propose_38 : decode cX7_propose 38 = .ok (.goto 4, 3) := by decide +kernel
theorem dX7_propose_41 : decode cX7_propose 41 = .ok (.iconst 0, 1) := by decide +kernel
theorem dX7_propose_42 : decode cX7_propose 42 = .ok (.istore 6, 2) := by decide +kernel
theorem dX7_propose_44 : decode cX7_propose 44 = .ok (.iload 5, 2) := by decide +kernel
theorem dX7_propose_46 : decode cX7_propose 46 = .ok (.ifCond .eq 31, 3) := by decide +kernel
theorem dX7_propose_49 : decode cX7_propose 49 = .ok (.iload 6, 2) := by decide +kernel
theorem dX7_propose_51 : decode cX7_propose 51 = .ok (.ifCond .eq 26, 3) := by decide +kernel
theorem dX7_propose_54 : decode cX7_propose 54 = .ok (.aload_n 0, 1) := by decide +kernel
theorem dX7_propose_55 : decode cX7_propose 55 = .ok (.iload_n 1, 1) := by decide +kernel
theorem dX7_propose_56 : decode cX7_propose 56 = .ok (.iload_n 2, 1) := by decide +kernel
theorem dX7_propose_57 : decode cX7_propose 57 = .ok (.invokevirtual 256, 3) := by decide +kernel
theorem dX7_propose_60 : decode cX7_propose 60 = .ok (.ifCond .eq 17, 3) := by decide +kernel
theorem dX7_propose_63 : decode cX7_propose 63 = .ok (.aload_n 0, 1) := by decide +kernel
theorem dX7_propose_64 : decode cX7_propose 64 = .ok (.iload_n 1, 1) := by decide +kernel
theorem dX7_propose_65 : decode cX7_propose 65 = .ok (.iload_n 2, 1) := by decide +kernel
theorem dX7_propose_66 : decode cX7_propose 66 = .ok (.iload_n 3, 1) := by decide +kernel
theorem dX7_propose_67 : decode cX7_propose 67 = .ok (.invokevirtual 259, 3) := by decide +kernel
theorem dX7_propose_70 : decode cX7_propose 70 = .ok (.ifCond .eq 7, 3) := by decide +kernel
theorem dX7_propose_73 : decode cX7_propose 73 = .ok (.iconst 1, 1) := by decide +kernel
theorem dX7_propose_74 : decode cX7_propose 74 = .ok (.goto 4, 3) := by decide +kernel
theorem dX7_propose_77 : decode cX7_propose 77 = .ok (.iconst 0, 1) := by decide +kernel
theorem dX7_propose_78 : decode cX7_propose 78 = .ok (.istore 7, 2) := by decide +kernel
theorem dX7_propose_80 : decode cX7_propose 80 = .ok (.aload_n 0, 1) := by decide +kernel
theorem dX7_propose_81 : decode cX7_propose 81 = .ok (.iload 5, 2) := by decide +kernel
theorem dX7_propose_83 : decode cX7_propose 83 = .ok (.iload 6, 2) := by decide +kernel
theorem dX7_propose_85 : decode cX7_propose 85 = .ok (.iload 7, 2) := by decide +kernel
theorem dX7_propose_87 : decode cX7_propose 87 = .ok (.ifCond .eq 17, 3) := by decide +kernel
theorem dX7_propose_90 : decode cX7_propose 90 = .ok (.aload_n 0, 1) := by decide +kernel
theorem dX7_propose_91 : decode cX7_propose 91 = .ok (.getfield 146, 3) := by decide +kernel
theorem dX7_propose_94 : decode cX7_propose 94 = .ok (.sipush 150, 3) := by decide +kernel
theorem dX7_propose_97 : decode cX7_propose 97 = .ok (.if_icmp .ge 7, 3) := by decide +kernel
theorem dX7_propose_100 : decode cX7_propose 100 = .ok (.iconst 1, 1) := by decide +kernel
theorem dX7_propose_101 : decode cX7_propose 101 = .ok (.goto 4, 3) := by decide +kernel
theorem dX7_propose_104 : decode cX7_propose 104 = .ok (.iconst 0, 1) := by decide +kernel
theorem dX7_propose_105 : decode cX7_propose 105 = .ok (.invokevirtual 153, 3) := by decide +kernel
theorem dX7_propose_108 : decode cX7_propose 108 = .ok (.ifCond .ne 5, 3) := by decide +kernel
theorem dX7_propose_111 : decode cX7_propose 111 = .ok (.iconst 0, 1) := by decide +kernel
theorem dX7_propose_112 : decode cX7_propose 112 = .ok (.ireturn, 1) := by decide +kernel
theorem dX7_propose_113 : decode cX7_propose 113 = .ok (.aload_n 0, 1) := by decide +kernel
theorem dX7_propose_114 : decode cX7_propose 114 = .ok (.iconst 2, 1) := by decide +kernel
theorem dX7_propose_115 : decode cX7_propose 115 = .ok (.iload_n 1, 1) := by decide +kernel
theorem dX7_propose_116 : decode cX7_propose 116 = .ok (.aload_n 0, 1) := by decide +kernel
theorem dX7_propose_117 : decode cX7_propose 117 = .ok (.getfield 19, 3) := by decide +kernel
theorem dX7_propose_120 : decode cX7_propose 120 = .ok (.iload_n 2, 1) := by decide +kernel
theorem dX7_propose_121 : decode cX7_propose 121 = .ok (.iaload, 1) := by decide +kernel
theorem dX7_propose_122 : decode cX7_propose 122 = .ok (.iload_n 2, 1) := by decide +kernel
theorem dX7_propose_123 : decode cX7_propose 123 = .ok (.invokevirtual 242, 3) := by decide +kernel
theorem dX7_propose_126 : decode cX7_propose 126 = .ok (.istore 8, 2) := by decide +kernel
theorem dX7_propose_128 : decode cX7_propose 128 = .ok (.aload_n 0, 1) := by decide +kernel
theorem dX7_propose_129 : decode cX7_propose 129 = .ok (.getfield 108, 3) := by decide +kernel
theorem dX7_propose_132 : decode cX7_propose 132 = .ok (.iload 8, 2) := by decide +kernel
theorem dX7_propose_134 : decode cX7_propose 134 = .ok (.aload_n 0, 1) := by decide +kernel
theorem dX7_propose_135 : decode cX7_propose 135 = .ok (.getfield 32, 3) := by decide +kernel
theorem dX7_propose_138 : decode cX7_propose 138 = .ok (.aload_n 0, 1) := by decide +kernel
theorem dX7_propose_139 : decode cX7_propose 139 = .ok (.getfield 81, 3) := by decide +kernel
theorem dX7_propose_142 : decode cX7_propose 142 = .ok (.iload_n 1, 1) := by decide +kernel
theorem dX7_propose_143 : decode cX7_propose 143 = .ok (.iload_n 2, 1) := by decide +kernel
theorem dX7_propose_144 : decode cX7_propose 144 = .ok (.invokestatic 171, 3) := by decide +kernel
theorem dX7_propose_147 : decode cX7_propose 147 = .ok (.iaload, 1) := by decide +kernel
theorem dX7_propose_148 : decode cX7_propose 148 = .ok (.iaload, 1) := by decide +kernel
theorem dX7_propose_149 : decode cX7_propose 149 = .ok (.iastore, 1) := by decide +kernel
theorem dX7_propose_150 : decode cX7_propose 150 = .ok (.aload_n 0, 1) := by decide +kernel
theorem dX7_propose_151 : decode cX7_propose 151 = .ok (.getfield 111, 3) := by decide +kernel
theorem dX7_propose_154 : decode cX7_propose 154 = .ok (.iload 8, 2) := by decide +kernel
theorem dX7_propose_156 : decode cX7_propose 156 = .ok (.iload_n 3, 1) := by decide +kernel
theorem dX7_propose_157 : decode cX7_propose 157 = .ok (.iastore, 1) := by decide +kernel
theorem dX7_propose_158 : decode cX7_propose 158 = .ok (.aload_n 0, 1) := by decide +kernel
theorem dX7_propose_159 : decode cX7_propose 159 = .ok (.getfield 123, 3) := by decide +kernel
theorem dX7_propose_162 : decode cX7_propose 162 = .ok (.iload 8, 2) := by decide +kernel
theorem dX7_propose_164 : decode cX7_propose 164 = .ok (.iload 4, 2) := by decide +kernel
theorem dX7_propose_166 : decode cX7_propose 166 = .ok (.iastore, 1) := by decide +kernel
theorem dX7_propose_167 : decode cX7_propose 167 = .ok (.iload 8, 2) := by decide +kernel
theorem dX7_propose_169 : decode cX7_propose 169 = .ok (.ireturn, 1) := by decide +kernel
theorem lk_X7_propose : LK yX7_propose cX7_propose 9 (some .int) 4 := ⟨qW_at 1628 (by decide +kernel) rfl, qW_at 78 (by decide +kernel) rfl, by decide, by decide, by decide +kernel⟩
theorem im_X7_propose : Cond.instanceMethod yX7_propose ∈ qW := qW_at 1626 (by decide +kernel) rfl
theorem se_X7_propose : Cond.selects RX7 yX7_propose yX7_propose ∈ qW := qW_at 1627 (by decide +kernel) rfl
def F_X7_propose (this : Nat) (person_ : Int32) (its_ : Int32) (when_ : Int32) (clock_ : Int32) : QX Int32 :=
  (xb (xb (xb (xb (xb (xp person_) fun v1 => F_X7_isPerson v1) fun v2 => xp (decide (¬ v2 = 0))) fun v6 => if v6 then (xb (xb (xp (some this)) fun v3 => xb (xp its_) fun v4 => xo 8 v3 fun q => F_X7_isMeeting q v4) fun v5 => xp (decide (¬ v5 = 0))) else xp false) fun v7 => xp (b2i v7)) fun is_8 =>
  (xb (xb (xb (xb (xb (xp when_) fun v9 => F_X7_isDay v9) fun v10 => xp (decide (¬ v10 = 0))) fun v13 => if v13 then (xb (xb (xp clock_) fun v11 => F_X7_isClock v11) fun v12 => xp (decide (¬ v12 = 0))) else xp false) fun v14 => xp (b2i v14)) fun can_15 =>
  (xb (xb (xb (xb (xb (xb (xp is_8) fun v16 => xp (decide (¬ v16 = 0))) fun v18 => if v18 then (xb (xp can_15) fun v17 => xp (decide (¬ v17 = 0))) else xp false) fun v23 => if v23 then (xb (xb (xp (some this)) fun v19 => xb (xp person_) fun v20 => xb (xp its_) fun v21 => xo 8 v19 fun q => F_X7_hasCopy q v20 v21) fun v22 => xp (decide (¬ v22 = 0))) else xp false) fun v29 => if v29 then (xb (xb (xp (some this)) fun v24 => xb (xp person_) fun v25 => xb (xp its_) fun v26 => xb (xp when_) fun v27 => xo 8 v24 fun q => F_X7_hasDate q v25 v26 v27) fun v28 => xp (decide (¬ v28 = 0))) else xp false) fun v30 => xp (b2i v30)) fun may_31 =>
  (xb (xb (xb (xb (xp (some this)) fun v38 => xb (xp is_8) fun v39 => xb (xp can_15) fun v40 => xb (xb (xb (xb (xp may_31) fun v32 => xp (decide (¬ v32 = 0))) fun v36 => if v36 then (xb (xb (xp (some this)) fun v33 => xgi 8 29 v33) fun v34 => xb (xp (150 : Int32)) fun v35 => xp (decide (v34 < v35))) else xp false) fun v37 => xp (b2i v37)) fun v41 => xo 8 v38 fun q => F_X7_goes q v39 v40 v41) fun v42 => xp (decide (¬ v42 = 0))) fun v43 => xp (!v43)) fun v73 => if v73 then (xp (0 : Int32)) else
  (xb (xb (xp (some this)) fun v47 => xb (xp (2 : Int32)) fun v48 => xb (xp person_) fun v49 => xb (xb (xb (xp (some this)) fun v44 => xgr 8 4 v44) fun v45 => xb (xp its_) fun v46 => xai 0 v45 v46) fun v50 => xb (xp its_) fun v51 => xo 8 v47 fun q => F_X7_adds q v48 v49 v50 v51) fun message_52 =>
  (xb (xb (xb (xp (some this)) fun v53 => xgr 8 36 v53) fun v62 => xb (xp message_52) fun v63 => xb (xb (xb (xp (some this)) fun v54 => xgr 8 9 v54) fun v60 => xb (xb (xb (xp (some this)) fun v55 => xgr 8 25 v55) fun v58 => xb (xb (xp person_) fun v56 => xb (xp its_) fun v57 => F_X7_at v56 v57) fun v59 => xai 0 v58 v59) fun v61 => xai 0 v60 v61) fun v64 => xsai v62 v63 v64) fun _ =>
  (xb (xb (xb (xp (some this)) fun v65 => xgr 8 37 v65) fun v66 => xb (xp message_52) fun v67 => xb (xp when_) fun v68 => xsai v66 v67 v68) fun _ =>
  (xb (xb (xb (xp (some this)) fun v69 => xgr 8 41 v69) fun v70 => xb (xp message_52) fun v71 => xb (xp clock_) fun v72 => xsai v70 v71 v72) fun _ =>
  (xp message_52)))))))))
set_option maxRecDepth 100000 in
set_option maxHeartbeats 4000000 in
theorem M_X7_propose (this : Nat) (person_ : Int32) (its_ : Int32) (when_ : Int32) (clock_ : Int32) : MM yX7_propose cX7_propose 9 (some .int) 3 66 0 0 encI [.ref this, .int person_, .int its_, .int when_, .int clock_] (F_X7_propose this person_ its_ when_ clock_) := by
  refine MM_of (env0 := [(0, va_rf (some this)), (1, .int person_), (2, .int its_), (3, .int when_), (4, .int clock_)]) (by decide) (by exact Nat.le_of_ble_eq_true rfl) (by rfl) (fun k mm res X C hR hN hr hname h => ?_)
  have X : CX k cX7_propose RX7 := X
  have hT : TH k (fun e m' => res = (.error e, m')) := TH_of C
  have htr := C.2.2.2.1
  unfold F_X7_propose at h
  exact SB_go (T := fun e m' => res = (.error e, m')) (RET := fun v m' => res = (.ok v, m')) (SB_let (XE_b2i (CE_and (CE_1 (XE_1 (pB := pI)  (L_iload_n (x := person_) 1 X dX7_propose_0 rfl rfl) (fun v0 st mm a b hd hc hs h => g_callS (st := st) X hT htr (M_X7_isPerson v0) lk_X7_isPerson st_X7_isPerson ml_X7_202 rfl (by rw [hR]; exact ⟨Nat.le_of_ble_eq_true rfl, Nat.le_of_ble_eq_true rfl⟩) (Nat.le_trans hd (by decide)) ⟨hc, hs⟩ dX7_propose_1 h)) (Z_ne_F X dX7_propose_4 (by decide))) (CE_1 (XE_2 (pB := pI) wR (L_aload_n (r := (some this)) 0 X dX7_propose_7 rfl rfl) (L_iload_n (x := its_) 2 X dX7_propose_8 rfl rfl) (fun v0 v1 st mm a b hd hc hs h => g_callVo (st := st) (cI := 8) X hT htr rfl (fun q => M_X7_isMeeting q v1) lk_X7_isMeeting im_X7_isMeeting se_X7_isMeeting ml_X7_211 rfl (by rw [hR]; exact ⟨Nat.le_of_ble_eq_true rfl, Nat.le_of_ble_eq_true rfl⟩) (Nat.le_trans hd (by decide)) ⟨hc, hs⟩ dX7_propose_9 h)) (Z_ne_F X dX7_propose_12 (by decide)))) (S_b1 X dX7_propose_15 dX7_propose_16 (by decide)) (S_b0 X dX7_propose_19)) (S_istore (ev := fun is_8 => [(5, .int is_8), (0, va_rf (some this)), (1, .int person_), (2, .int its_), (3, .int when_), (4, .int clock_)]) X dX7_propose_20 (by rw [hN]; decide) (fun _ => rfl)) fun is_8 =>
  (SB_let (XE_b2i (CE_and (CE_1 (XE_1 (pB := pI)  (L_iload_n (x := when_) 4 X dX7_propose_22 rfl rfl) (fun v0 st mm a b hd hc hs h => g_callS (st := st) X hT htr (M_X7_isDay v0) lk_X7_isDay st_X7_isDay ml_X7_157 rfl (by rw [hR]; exact ⟨Nat.le_of_ble_eq_true rfl, Nat.le_of_ble_eq_true rfl⟩) (Nat.le_trans hd (by decide)) ⟨hc, hs⟩ dX7_propose_23 h)) (Z_ne_F X dX7_propose_26 (by decide))) (CE_1 (XE_1 (pB := pI)  (L_iload (x := clock_) 5 X dX7_propose_29 rfl) (fun v0 st mm a b hd hc hs h => g_callS (st := st) X hT htr (M_X7_isClock v0) lk_X7_isClock st_X7_isClock ml_X7_226 rfl (by rw [hR]; exact ⟨Nat.le_of_ble_eq_true rfl, Nat.le_of_ble_eq_true rfl⟩) (Nat.le_trans hd (by decide)) ⟨hc, hs⟩ dX7_propose_31 h)) (Z_ne_F X dX7_propose_34 (by decide)))) (S_b1 X dX7_propose_37 dX7_propose_38 (by decide)) (S_b0 X dX7_propose_41)) (S_istore (ev := fun can_15 => [(6, .int can_15), (5, .int is_8), (0, va_rf (some this)), (1, .int person_), (2, .int its_), (3, .int when_), (4, .int clock_)]) X dX7_propose_42 (by rw [hN]; decide) (fun _ => rfl)) fun can_15 =>
  (SB_let (XE_b2i (CE_and (CE_and (CE_and (CE_1 (L_iload (x := is_8) 1 X dX7_propose_44 rfl) (Z_ne_F X dX7_propose_46 (by decide))) (CE_1 (L_iload (x := can_15) 0 X dX7_propose_49 rfl) (Z_ne_F X dX7_propose_51 (by decide)))) (CE_1 (XE_3 (pB := pI) wR wI (L_aload_n (r := (some this)) 2 X dX7_propose_54 rfl rfl) (L_iload_n (x := person_) 3 X dX7_propose_55 rfl rfl) (L_iload_n (x := its_) 4 X dX7_propose_56 rfl rfl) (fun v0 v1 v2 st mm a b hd hc hs h => g_callVo (st := st) (cI := 8) X hT htr rfl (fun q => M_X7_hasCopy q v1 v2) lk_X7_hasCopy im_X7_hasCopy se_X7_hasCopy ml_X7_256 rfl (by rw [hR]; exact ⟨Nat.le_of_ble_eq_true rfl, Nat.le_of_ble_eq_true rfl⟩) (Nat.le_trans hd (by decide)) ⟨hc, hs⟩ dX7_propose_57 h)) (Z_ne_F X dX7_propose_60 (by decide)))) (CE_1 (XE_4 (pB := pI) wR wI wI (L_aload_n (r := (some this)) 2 X dX7_propose_63 rfl rfl) (L_iload_n (x := person_) 3 X dX7_propose_64 rfl rfl) (L_iload_n (x := its_) 4 X dX7_propose_65 rfl rfl) (L_iload_n (x := when_) 5 X dX7_propose_66 rfl rfl) (fun v0 v1 v2 v3 st mm a b hd hc hs h => g_callVo (st := st) (cI := 8) X hT htr rfl (fun q => M_X7_hasDate q v1 v2 v3) lk_X7_hasDate im_X7_hasDate se_X7_hasDate ml_X7_259 rfl (by rw [hR]; exact ⟨Nat.le_of_ble_eq_true rfl, Nat.le_of_ble_eq_true rfl⟩) (Nat.le_trans hd (by decide)) ⟨hc, hs⟩ dX7_propose_67 h)) (Z_ne_F X dX7_propose_70 (by decide)))) (S_b1 X dX7_propose_73 dX7_propose_74 (by decide)) (S_b0 X dX7_propose_77)) (S_istore (ev := fun may_31 => [(7, .int may_31), (6, .int can_15), (5, .int is_8), (0, va_rf (some this)), (1, .int person_), (2, .int its_), (3, .int when_), (4, .int clock_)]) X dX7_propose_78 (by rw [hN]; decide) (fun _ => rfl)) fun may_31 =>
  (SB_if (CE_not (CE_1 (XE_4 (pB := pI) wR wI wI (L_aload_n (r := (some this)) 3 X dX7_propose_80 rfl rfl) (L_iload (x := is_8) 2 X dX7_propose_81 rfl) (L_iload (x := can_15) 1 X dX7_propose_83 rfl) (XE_b2i (CE_and (CE_1 (L_iload (x := may_31) 0 X dX7_propose_85 rfl) (Z_ne_F X dX7_propose_87 (by decide))) (CE_2 wI (XE_1 (L_aload_n (r := (some this)) 3 X dX7_propose_90 rfl rfl) (O_gi (c := 8) (j := 29) X rfl inW7 (by decide) fl_X7_146 rfl dX7_propose_91)) (L_sipush (v := (150)) X dX7_propose_94 (by decide)) (C_lt_F X dX7_propose_97 (by decide)))) (S_b1 X dX7_propose_100 dX7_propose_101 (by decide)) (S_b0 X dX7_propose_104)) (fun v0 v1 v2 v3 st mm a b hd hc hs h => g_callVo (st := st) (cI := 8) X hT htr rfl (fun q => M_X7_goes q v1 v2 v3) lk_X7_goes im_X7_goes se_X7_goes ml_X7_153 rfl (by rw [hR]; exact ⟨Nat.le_of_ble_eq_true rfl, Nat.le_of_ble_eq_true rfl⟩) (Nat.le_trans hd (by decide)) ⟨hc, hs⟩ dX7_propose_105 h)) (Z_ne_T X dX7_propose_108 (by decide))))
  (SB_retI X C hr dX7_propose_112 (L_iconst (v := 0) X dX7_propose_111 (by decide)))
  (SB_let (XE_5 (pB := pI) wR wI wI wI (L_aload_n (r := (some this)) 3 X dX7_propose_113 rfl rfl) (L_iconst (v := 2) X dX7_propose_114 (by decide)) (L_iload_n (x := person_) 4 X dX7_propose_115 rfl rfl) (XE_2 wR (XE_1 (L_aload_n (r := (some this)) 3 X dX7_propose_116 rfl rfl) (O_gr (c := 8) (j := 4) X rfl inW7 (by decide) fl_X7_19 rfl dX7_propose_117)) (L_iload_n (x := its_) 5 X dX7_propose_120 rfl rfl) (O_ai X dX7_propose_121)) (L_iload_n (x := its_) 5 X dX7_propose_122 rfl rfl) (fun v0 v1 v2 v3 v4 st mm a b hd hc hs h => g_callVo (st := st) (cI := 8) X hT htr rfl (fun q => M_X7_adds q v1 v2 v3 v4) lk_X7_adds im_X7_adds se_X7_adds ml_X7_242 rfl (by rw [hR]; exact ⟨Nat.le_of_ble_eq_true rfl, Nat.le_of_ble_eq_true rfl⟩) (Nat.le_trans hd (by decide)) ⟨hc, hs⟩ dX7_propose_123 h)) (S_istore (ev := fun message_52 => [(8, .int message_52), (7, .int may_31), (6, .int can_15), (5, .int is_8), (0, va_rf (some this)), (1, .int person_), (2, .int its_), (3, .int when_), (4, .int clock_)]) X dX7_propose_126 (by rw [hN]; decide) (fun _ => rfl)) fun message_52 =>
  (SB_do (XE_3 wR wI (XE_1 (L_aload_n (r := (some this)) 4 X dX7_propose_128 rfl rfl) (O_gr (c := 8) (j := 36) X rfl inW7 (by decide) fl_X7_108 rfl dX7_propose_129)) (L_iload (x := message_52) 0 X dX7_propose_132 rfl) (XE_2 wR (XE_1 (L_aload_n (r := (some this)) 4 X dX7_propose_134 rfl rfl) (O_gr (c := 8) (j := 9) X rfl inW7 (by decide) fl_X7_32 rfl dX7_propose_135)) (XE_2 wR (XE_1 (L_aload_n (r := (some this)) 4 X dX7_propose_138 rfl rfl) (O_gr (c := 8) (j := 25) X rfl inW7 (by decide) fl_X7_81 rfl dX7_propose_139)) (XE_2 (pB := pI) wI (L_iload_n (x := person_) 5 X dX7_propose_142 rfl rfl) (L_iload_n (x := its_) 6 X dX7_propose_143 rfl rfl) (fun v0 v1 st mm a b hd hc hs h => g_callS (st := st) X hT htr (M_X7_at v0 v1) lk_X7_at st_X7_at ml_X7_171 rfl (by rw [hR]; exact ⟨Nat.le_of_ble_eq_true rfl, Nat.le_of_ble_eq_true rfl⟩) (Nat.le_trans hd (by decide)) ⟨hc, hs⟩ dX7_propose_144 h)) (O_ai X dX7_propose_147)) (O_ai X dX7_propose_148)) (O_sai X dX7_propose_149))
  (SB_do (XE_3 wR wI (XE_1 (L_aload_n (r := (some this)) 4 X dX7_propose_150 rfl rfl) (O_gr (c := 8) (j := 37) X rfl inW7 (by decide) fl_X7_111 rfl dX7_propose_151)) (L_iload (x := message_52) 0 X dX7_propose_154 rfl) (L_iload_n (x := when_) 7 X dX7_propose_156 rfl rfl) (O_sai X dX7_propose_157))
  (SB_do (XE_3 wR wI (XE_1 (L_aload_n (r := (some this)) 4 X dX7_propose_158 rfl rfl) (O_gr (c := 8) (j := 41) X rfl inW7 (by decide) fl_X7_123 rfl dX7_propose_159)) (L_iload (x := message_52) 0 X dX7_propose_162 rfl) (L_iload (x := clock_) 8 X dX7_propose_164 rfl) (O_sai X dX7_propose_166))
  (SB_retI X C hr dX7_propose_169 (L_iload (x := message_52) 0 X dX7_propose_167 rfl)))))))))) h (by rw [hR]; decide) (by rw [hR]; decide)
theorem dX7_isOpen_0 : decode cX7_isOpen 0 = .ok (.aload_n 0, 1) := by decide +kernel
theorem dX7_isOpen_1 : decode cX7_isOpen 1 = .ok (.getfield 22, 3) := by decide +kernel
theorem dX7_isOpen_4 : decode cX7_isOpen 4 = .ok (.aload_n 0, 1) := by decide +kernel
theorem dX7_isOpen_5 : decode cX7_isOpen 5 = .ok (.getfield 102, 3) := by decide +kernel
theorem dX7_isOpen_8 : decode cX7_isOpen 8 = .ok (.iload_n 1, 1) := by decide +kernel
theorem dX7_isOpen_9 : decode cX7_isOpen 9 = .ok (.iaload, 1) := by decide +kernel
theorem dX7_isOpen_10 : decode cX7_isOpen 10 = .ok (.iaload, 1) := by decide +kernel
theorem dX7_isOpen_11 : decode cX7_isOpen 11 = .ok (.istore_n 2, 1) := by decide +kernel
theorem dX7_isOpen_12 : decode cX7_isOpen 12 = .ok (.aload_n 0, 1) := by decide +kernel
theorem dX7_isOpen_13 : decode cX7_isOpen 13 = .ok (.getfield 93, 3) := by decide +kernel
theorem dX7_isOpen_16 : decode cX7_isOpen 16 = .ok (.iload_n 1, 1) := by decide +kernel
theorem dX7_isOpen_17 : decode cX7_isOpen 17 = .ok (.iaload, 1) := by decide +kernel
theorem dX7_isOpen_18 : decode cX7_isOpen 18 = .ok (.iconst 2, 1) := by decide +kernel
theorem dX7_isOpen_19 : decode cX7_isOpen 19 = .ok (.if_icmp .ne 34, 3) := by decide +kernel
theorem dX7_isOpen_22 : decode cX7_isOpen 22 = .ok (.aload_n 0, 1) := by decide +kernel
theorem dX7_isOpen_23 : decode cX7_isOpen 23 = .ok (.getfield 126, 3) := by decide +kernel
theorem dX7_isOpen_26 : decode cX7_isOpen 26 = .ok (.iload_n 1, 1) := by decide +kernel
theorem dX7_isOpen_27 : decode cX7_isOpen 27 = .ok (.baload, 1) := by decide +kernel
theorem dX7_isOpen_28 : decode cX7_isOpen 28 = .ok (.ifCond .eq 25, 3) := by decide +kernel
theorem dX7_isOpen_31 : decode cX7_isOpen 31 = .ok (.aload_n 0, 1) := by decide +kernel
theorem dX7_isOpen_32 : decode cX7_isOpen 32 = .ok (.getfield 129, 3) := by decide +kernel
theorem dX7_isOpen_35 : decode cX7_isOpen 35 = .ok (.iload_n 1, 1) := by decide +kernel
theorem dX7_isOpen_36 : decode cX7_isOpen 36 = .ok (.baload, 1) := by decide +kernel
theorem dX7_isOpen_37 : decode cX7_isOpen 37 = .ok (.ifCond .ne 16, 3) := by decide +kernel
theorem dX7_isOpen_40 : decode cX7_isOpen 40 = .ok (.aload_n 0, 1) := by decide +kernel
theorem dX7_isOpen_41 : decode cX7_isOpen 41 = .ok (.getfield 62, 3) := by decide +kernel
theorem dX7_isOpen_44 : decode cX7_isOpen 44 = .ok (.iload_n 2, 1) := by decide +kernel
theorem dX7_isOpen_45 : decode cX7_isOpen 45 = .ok (.baload, 1) := by decide +kernel
theorem dX7_isOpen_46 : decode cX7_isOpen 46 = .ok (.ifCond .ne 7, 3) := by decide +kernel
theorem dX7_isOpen_49 : decode cX7_isOpen 49 = .ok (.iconst 1, 1) := by decide +kernel
theorem dX7_isOpen_50 : decode cX7_isOpen 50 = .ok (.goto 4, 3) := by decide +kernel
theorem dX7_isOpen_53 : decode cX7_isOpen 53 = .ok (.iconst 0, 1) := by decide +kernel
theorem dX7_isOpen_54 : decode cX7_isOpen 54 = .ok (.istore_n 3, 1) := by decide +kernel
theorem dX7_isOpen_55 : decode cX7_isOpen 55 = .ok (.iload_n 3, 1) := by decide +kernel
theorem dX7_isOpen_56 : decode cX7_isOpen 56 = .ok (.ifCond .eq 45, 3) := by decide +kernel
theorem dX7_isOpen_59 : decode cX7_isOpen 59 = .ok (.aload_n 0, 1) := by decide +kernel
theorem dX7_isOpen_60 : decode cX7_isOpen 60 = .ok (.getfield 75, 3) := by decide +kernel
theorem dX7_isOpen_63 : decode cX7_isOpen 63 = .ok (.iload_n 2, 1) := by decide +kernel
theorem dX7_isOpen_64 : decode cX7_isOpen 64 = .ok (.laload, 1) := by decide +kernel
theorem dX7_isOpen_65 : decode cX7_isOpen 65 = .ok (.aload_n 0, 1) := by decide +kernel
theorem dX7_isOpen_66 : decode cX7_isOpen 66 = .ok (.getfield 111, 3) := by decide +kernel
theorem dX7_isOpen_69 : decode cX7_isOpen 69 = .ok (.iload_n 1, 1) := by decide +kernel
theorem dX7_isOpen_70 : decode cX7_isOpen 70 = .ok (.iaload, 1) := by decide +kernel
theorem dX7_isOpen_71 : decode cX7_isOpen 71 = .ok (.invokestatic 180, 3) := by decide +kernel
theorem dX7_isOpen_74 : decode cX7_isOpen 74 = .ok (.ifCond .eq 27, 3) := by decide +kernel
theorem dX7_isOpen_77 : decode cX7_isOpen 77 = .ok (.aload_n 0, 1) := by decide +kernel
theorem dX7_isOpen_78 : decode cX7_isOpen 78 = .ok (.iload_n 2, 1) := by decide +kernel
theorem dX7_isOpen_79 : decode cX7_isOpen 79 = .ok (.aload_n 0, 1) := by decide +kernel
theorem dX7_isOpen_80 : decode cX7_isOpen 80 = .ok (.getfield 111, 3) := by decide +kernel
theorem dX7_isOpen_83 : decode cX7_isOpen 83 = .ok (.iload_n 1, 1) := by decide +kernel
theorem dX7_isOpen_84 : decode cX7_isOpen 84 = .ok (.iaload, 1) := by decide +kernel
theorem dX7_isOpen_85 : decode cX7_isOpen 85 = .ok (.invokevirtual 236, 3) := by decide +kernel
theorem dX7_isOpen_88 : decode cX7_isOpen 88 = .ok (.aload_n 0, 1) := by decide +kernel
theorem dX7_isOpen_89 : decode cX7_isOpen 89 = .ok (.getfield 108, 3) := by decide +kernel
theorem dX7_isOpen_92 : decode cX7_isOpen 92 = .ok (.iload_n 1, 1) := by decide +kernel
theorem dX7_isOpen_93 : decode cX7_isOpen 93 = .ok (.iaload, 1) := by decide +kernel
theorem dX7_isOpen_94 : decode cX7_isOpen 94 = .ok (.if_icmp .gt 7, 3) := by decide +kernel
theorem dX7_isOpen_97 : decode cX7_isOpen 97 = .ok (.iconst 1, 1) := by decide +kernel
theorem dX7_isOpen_98 : decode cX7_isOpen 98 = .ok (.goto 4, 3) := by decide +kernel
theorem dX7_isOpen_101 : decode cX7_isOpen 101 = .ok (.iconst 0, 1) := by decide +kernel
theorem dX7_isOpen_102 : decode cX7_isOpen 102 = .ok (.ireturn, 1) := by decide +kernel
theorem lk_X7_isOpen : LK yX7_isOpen cX7_isOpen 4 (some .boolean) 1 := ⟨qW_at 1640 (by decide +kernel) rfl, qW_at 78 (by decide +kernel) rfl, by decide, by decide, by decide +kernel⟩
theorem im_X7_isOpen : Cond.instanceMethod yX7_isOpen ∈ qW := qW_at 1639 (by decide +kernel) rfl
theorem se_X7_isOpen : Cond.selects RX7 yX7_isOpen yX7_isOpen ∈ qW := qW_at 53 (by decide +kernel) rfl
def F_X7_isOpen (this : Nat) (message_ : Int32) : QX Int32 :=
  (xb (xb (xb (xp (some this)) fun v1 => xgr 8 5 v1) fun v5 => xb (xb (xb (xp (some this)) fun v2 => xgr 8 34 v2) fun v3 => xb (xp message_) fun v4 => xai 0 v3 v4) fun v6 => xai 0 v5 v6) fun by_7 =>
  (xb (xb (xb (xb (xb (xb (xb (xb (xp (some this)) fun v8 => xgr 8 31 v8) fun v9 => xb (xp message_) fun v10 => xai 0 v9 v10) fun v11 => xb (xp (2 : Int32)) fun v12 => xp (decide (v11 = v12))) fun v17 => if v17 then (xb (xb (xb (xp (some this)) fun v13 => xgr 8 42 v13) fun v14 => xb (xp message_) fun v15 => xai 1 v14 v15) fun v16 => xp (decide (¬ v16 = 0))) else xp false) fun v23 => if v23 then (xb (xb (xb (xb (xp (some this)) fun v18 => xgr 8 43 v18) fun v19 => xb (xp message_) fun v20 => xai 1 v19 v20) fun v21 => xp (decide (¬ v21 = 0))) fun v22 => xp (!v22)) else xp false) fun v29 => if v29 then (xb (xb (xb (xb (xp (some this)) fun v24 => xgr 8 19 v24) fun v25 => xb (xp by_7) fun v26 => xai 1 v25 v26) fun v27 => xp (decide (¬ v27 = 0))) fun v28 => xp (!v28)) else xp false) fun v30 => xp (b2i v30)) fun is_31 =>
  (xb (xb (xb (xb (xb (xp is_31) fun v32 => xp (decide (¬ v32 = 0))) fun v42 => if v42 then (xb (xb (xb (xb (xp (some this)) fun v33 => xgr 8 23 v33) fun v34 => xb (xp by_7) fun v35 => xal v34 v35) fun v39 => xb (xb (xb (xp (some this)) fun v36 => xgr 8 37 v36) fun v37 => xb (xp message_) fun v38 => xai 0 v37 v38) fun v40 => F_X7_has v39 v40) fun v41 => xp (decide (¬ v41 = 0))) else xp false) fun v54 => if v54 then (xb (xb (xp (some this)) fun v46 => xb (xp by_7) fun v47 => xb (xb (xb (xp (some this)) fun v43 => xgr 8 37 v43) fun v44 => xb (xp message_) fun v45 => xai 0 v44 v45) fun v48 => xo 8 v46 fun q => F_X7_stand q v47 v48) fun v49 => xb (xb (xb (xp (some this)) fun v50 => xgr 8 36 v50) fun v51 => xb (xp message_) fun v52 => xai 0 v51 v52) fun v53 => xp (decide (v49 ≤ v53))) else xp false) fun v55 => xp (b2i v55)) xz)))
set_option maxRecDepth 100000 in
set_option maxHeartbeats 4000000 in
theorem M_X7_isOpen (this : Nat) (message_ : Int32) : MM yX7_isOpen cX7_isOpen 4 (some .boolean) 1 22 0 0 encI [.ref this, .int message_] (F_X7_isOpen this message_) := by
  refine MM_of (env0 := [(0, va_rf (some this)), (1, .int message_)]) (by decide) (by exact Nat.le_of_ble_eq_true rfl) (by rfl) (fun k mm res X C hR hN hr hname h => ?_)
  have X : CX k cX7_isOpen RX7 := X
  have hT : TH k (fun e m' => res = (.error e, m')) := TH_of C
  have htr := C.2.2.2.1
  unfold F_X7_isOpen at h
  exact SB_go (T := fun e m' => res = (.error e, m')) (RET := fun v m' => res = (.ok v, m')) (SB_let (XE_2 wR (XE_1 (L_aload_n (r := (some this)) 0 X dX7_isOpen_0 rfl rfl) (O_gr (c := 8) (j := 5) X rfl inW7 (by decide) fl_X7_22 rfl dX7_isOpen_1)) (XE_2 wR (XE_1 (L_aload_n (r := (some this)) 0 X dX7_isOpen_4 rfl rfl) (O_gr (c := 8) (j := 34) X rfl inW7 (by decide) fl_X7_102 rfl dX7_isOpen_5)) (L_iload_n (x := message_) 1 X dX7_isOpen_8 rfl rfl) (O_ai X dX7_isOpen_9)) (O_ai X dX7_isOpen_10)) (S_istore_n (ev := fun by_7 => [(2, .int by_7), (0, va_rf (some this)), (1, .int message_)]) X dX7_isOpen_11 rfl (by rw [hN]; decide) (fun _ => rfl)) fun by_7 =>
  (SB_let (XE_b2i (CE_and (CE_and (CE_and (CE_2 wI (XE_2 wR (XE_1 (L_aload_n (r := (some this)) 1 X dX7_isOpen_12 rfl rfl) (O_gr (c := 8) (j := 31) X rfl inW7 (by decide) fl_X7_93 rfl dX7_isOpen_13)) (L_iload_n (x := message_) 2 X dX7_isOpen_16 rfl rfl) (O_ai X dX7_isOpen_17)) (L_iconst (v := 2) X dX7_isOpen_18 (by decide)) (C_eq_F X dX7_isOpen_19 (by decide))) (CE_1 (XE_2 wR (XE_1 (L_aload_n (r := (some this)) 1 X dX7_isOpen_22 rfl rfl) (O_gr (c := 8) (j := 42) X rfl inW7 (by decide) fl_X7_126 rfl dX7_isOpen_23)) (L_iload_n (x := message_) 2 X dX7_isOpen_26 rfl rfl) (O_az X dX7_isOpen_27)) (Z_ne_F X dX7_isOpen_28 (by decide)))) (CE_not (CE_1 (XE_2 wR (XE_1 (L_aload_n (r := (some this)) 1 X dX7_isOpen_31 rfl rfl) (O_gr (c := 8) (j := 43) X rfl inW7 (by decide) fl_X7_129 rfl dX7_isOpen_32)) (L_iload_n (x := message_) 2 X dX7_isOpen_35 rfl rfl) (O_az X dX7_isOpen_36)) (Z_ne_T X dX7_isOpen_37 (by decide))))) (CE_not (CE_1 (XE_2 wR (XE_1 (L_aload_n (r := (some this)) 1 X dX7_isOpen_40 rfl rfl) (O_gr (c := 8) (j := 19) X rfl inW7 (by decide) fl_X7_62 rfl dX7_isOpen_41)) (L_iload_n (x := by_7) 0 X dX7_isOpen_44 rfl rfl) (O_az X dX7_isOpen_45)) (Z_ne_T X dX7_isOpen_46 (by decide))))) (S_b1 X dX7_isOpen_49 dX7_isOpen_50 (by decide)) (S_b0 X dX7_isOpen_53)) (S_istore_n (ev := fun is_31 => [(3, .int is_31), (2, .int by_7), (0, va_rf (some this)), (1, .int message_)]) X dX7_isOpen_54 rfl (by rw [hN]; decide) (fun _ => rfl)) fun is_31 =>
  (SB_retZ X C hr dX7_isOpen_102 (XE_b2i (CE_and (CE_and (CE_1 (L_iload_n (x := is_31) 0 X dX7_isOpen_55 rfl rfl) (Z_ne_F X dX7_isOpen_56 (by decide))) (CE_1 (XE_2 (pB := pI) wL (XE_2 wR (XE_1 (L_aload_n (r := (some this)) 2 X dX7_isOpen_59 rfl rfl) (O_gr (c := 8) (j := 23) X rfl inW7 (by decide) fl_X7_75 rfl dX7_isOpen_60)) (L_iload_n (x := by_7) 1 X dX7_isOpen_63 rfl rfl) (O_al X dX7_isOpen_64)) (XE_2 wR (XE_1 (L_aload_n (r := (some this)) 2 X dX7_isOpen_65 rfl rfl) (O_gr (c := 8) (j := 37) X rfl inW7 (by decide) fl_X7_111 rfl dX7_isOpen_66)) (L_iload_n (x := message_) 3 X dX7_isOpen_69 rfl rfl) (O_ai X dX7_isOpen_70)) (fun v0 v1 st mm a b hd hc hs h => g_callS (st := st) X hT htr (M_X7_has v0 v1) lk_X7_has st_X7_has ml_X7_180 rfl (by rw [hR]; exact ⟨Nat.le_of_ble_eq_true rfl, Nat.le_of_ble_eq_true rfl⟩) (Nat.le_trans hd (by decide)) ⟨hc, hs⟩ dX7_isOpen_71 h)) (Z_ne_F X dX7_isOpen_74 (by decide)))) (CE_2 wI (XE_3 (pB := pI) wR wI (L_aload_n (r := (some this)) 2 X dX7_isOpen_77 rfl rfl) (L_iload_n (x := by_7) 1 X dX7_isOpen_78 rfl rfl) (XE_2 wR (XE_1 (L_aload_n (r := (some this)) 2 X dX7_isOpen_79 rfl rfl) (O_gr (c := 8) (j := 37) X rfl inW7 (by decide) fl_X7_111 rfl dX7_isOpen_80)) (L_iload_n (x := message_) 3 X dX7_isOpen_83 rfl rfl) (O_ai X dX7_isOpen_84)) (fun v0 v1 v2 st mm a b hd hc hs h => g_callVo (st := st) (cI := 8) X hT htr rfl (fun q => M_X7_stand q v1 v2) lk_X7_stand im_X7_stand se_X7_stand ml_X7_236 rfl (by rw [hR]; exact ⟨Nat.le_of_ble_eq_true rfl, Nat.le_of_ble_eq_true rfl⟩) (Nat.le_trans hd (by decide)) ⟨hc, hs⟩ dX7_isOpen_85 h)) (XE_2 wR (XE_1 (L_aload_n (r := (some this)) 2 X dX7_isOpen_88 rfl rfl) (O_gr (c := 8) (j := 36) X rfl inW7 (by decide) fl_X7_108 rfl dX7_isOpen_89)) (L_iload_n (x := message_) 3 X dX7_isOpen_92 rfl rfl) (O_ai X dX7_isOpen_93)) (C_le_F X dX7_isOpen_94 (by decide)))) (S_b1 X dX7_isOpen_97 dX7_isOpen_98 (by decide)) (S_b0 X dX7_isOpen_101))))) h (by rw [hR]; decide) (by rw [hR]; decide)
theorem dX7_opens_0 : decode cX7_opens 0 = .ok (.iconst 0, 1) := by decide +kernel
theorem dX7_opens_1 : decode cX7_opens 1 = .ok (.istore_n 2, 1) := by decide +kernel
theorem dX7_opens_2 : decode cX7_opens 2 = .ok (.iconst 0, 1) := by decide +kernel
theorem dX7_opens_3 : decode cX7_opens 3 = .ok (.istore_n 3, 1) := by decide +kernel
theorem dX7_opens_4 : decode cX7_opens 4 = .ok (.iload_n 3, 1) := by decide +kernel
theorem dX7_opens_5 : decode cX7_opens 5 = .ok (.aload_n 0, 1) := by decide +kernel
theorem dX7_opens_6 : decode cX7_opens 6 = .ok (.getfield 146, 3) := by decide +kernel
theorem dX7_opens_9 : decode cX7_opens 9 = .ok (.if_icmp .ge 35, 3) := by decide +kernel
theorem dX7_opens_12 : decode cX7_opens 12 = .ok (.iload_n 2, 1) := by decide +kernel
theorem dX7_opens_13 : decode cX7_opens 13 = .ok (.aload_n 0, 1) := by decide +kernel
theorem dX7_opens_14 : decode cX7_opens 14 = .ok (.getfield 102, 3) := by decide +kernel
theorem dX7_opens_17 : decode cX7_opens 17 = .ok (.iload_n 3, 1) := by decide +kernel
theorem dX7_opens_18 : decode cX7_opens 18 = .ok (.iaload, 1) := by decide +kernel
theorem dX7_opens_19 : decode cX7_opens 19 = .ok (.iload_n 1, 1) := by decide +kernel
theorem dX7_opens_20 : decode cX7_opens 20 = .ok (.if_icmp .ne 15, 3) := by decide +kernel
theorem dX7_opens_23 : decode cX7_opens 23 = .ok (.aload_n 0, 1) := by decide +kernel
theorem dX7_opens_24 : decode cX7_opens 24 = .ok (.iload_n 3, 1) := by decide +kernel
theorem dX7_opens_25 : decode cX7_opens 25 = .ok (.invokevirtual 264, 3) := by decide +kernel
theorem dX7_opens_28 : decode cX7_opens 28 = .ok (.ifCond .eq 7, 3) := by decide +kernel
theorem dX7_opens_31 : decode cX7_opens 31 = .ok (.iconst 1, 1) := by decide +kernel
theorem dX7_opens_32 : decode cX7_opens 32 = .ok (.goto 4, 3) := by decide +kernel
theorem dX7_opens_35 : decode cX7_opens 35 = .ok (.iconst 0, 1) := by decide +kernel
theorem dX7_opens_36 : decode cX7_opens 36 = .ok (.iadd, 1) := by decide +kernel
theorem dX7_opens_37 : decode cX7_opens 37 = .ok (.istore_n 2, 1) := by decide +kernel
theorem dX7_opens_38 : decode cX7_opens 38 = .ok (.iinc 3 1, 3) := by decide +kernel
theorem dX7_opens_41 : decode cX7_opens 41 = .ok (.goto (-37), 3) := by decide +kernel
theorem dX7_opens_44 : decode cX7_opens 44 = .ok (.iload_n 2, 1) := by decide +kernel
theorem dX7_opens_45 : decode cX7_opens 45 = .ok (.ireturn, 1) := by decide +kernel
theorem lk_X7_opens : LK yX7_opens cX7_opens 4 (some .int) 1 := ⟨qW_at 1652 (by decide +kernel) rfl, qW_at 78 (by decide +kernel) rfl, by decide, by decide, by decide +kernel⟩
theorem im_X7_opens : Cond.instanceMethod yX7_opens ∈ qW := qW_at 1651 (by decide +kernel) rfl
theorem se_X7_opens : Cond.selects RX7 yX7_opens yX7_opens ∈ qW := qW_at 55 (by decide +kernel) rfl
def F_X7_opens (this : Nat) (its_ : Int32) : QX Int32 :=
  (xb (xp (0 : Int32)) fun sum_1 =>
  (xb (xp (0 : Int32)) fun k_2 =>
  (xb (xl 2000 (fun (s3 : Int32 × Int32) => (xb (xp s3.2) fun v4 => xb (xb (xp (some this)) fun v5 => xgi 8 29 v5) fun v6 => xp (decide (v4 < v6)))) (fun (s3 : Int32 × Int32) =>
  (xb (xb (xp s3.1) fun v17 => xb (xb (xb (xb (xb (xb (xp (some this)) fun v7 => xgr 8 34 v7) fun v8 => xb (xp s3.2) fun v9 => xai 0 v8 v9) fun v10 => xb (xp its_) fun v11 => xp (decide (v10 = v11))) fun v15 => if v15 then (xb (xb (xp (some this)) fun v12 => xb (xp s3.2) fun v13 => xo 8 v12 fun q => F_X7_isOpen q v13) fun v14 => xp (decide (¬ v14 = 0))) else xp false) fun v16 => if v16 then (xp (1 : Int32)) else (xp (0 : Int32))) fun v18 => (xp (v17 + v18))) fun sum_19 =>
  (xp (sum_19, (s3.2 + 1))))) (sum_1, k_2)) fun s20 =>
  (xp s20.1))))
set_option maxRecDepth 100000 in
set_option maxHeartbeats 4000000 in
theorem M_X7_opens (this : Nat) (its_ : Int32) : MM yX7_opens cX7_opens 4 (some .int) 2 45 0 0 encI [.ref this, .int its_] (F_X7_opens this its_) := by
  refine MM_of (env0 := [(0, va_rf (some this)), (1, .int its_)]) (by decide) (by exact Nat.le_of_ble_eq_true rfl) (by rfl) (fun k mm res X C hR hN hr hname h => ?_)
  have X : CX k cX7_opens RX7 := X
  have hT : TH k (fun e m' => res = (.error e, m')) := TH_of C
  have htr := C.2.2.2.1
  unfold F_X7_opens at h
  exact SB_go (T := fun e m' => res = (.error e, m')) (RET := fun v m' => res = (.ok v, m')) (SB_let (L_iconst (v := 0) X dX7_opens_0 (by decide)) (S_istore_n (ev := fun sum_1 => [(2, .int sum_1), (0, va_rf (some this)), (1, .int its_)]) X dX7_opens_1 rfl (by rw [hN]; decide) (fun _ => rfl)) fun sum_1 =>
  (SB_let (L_iconst (v := 0) X dX7_opens_2 (by decide)) (S_istore_n (ev := fun k_2 => [(3, .int k_2), (2, .int sum_1), (0, va_rf (some this)), (1, .int its_)]) X dX7_opens_3 rfl (by rw [hN]; decide) (fun _ => rfl)) fun k_2 =>
  (SB_seq (ST_loop (σ := Int32 × Int32) (upd := (fun (s : Int32 × Int32) => [(3, .int s.2), (2, .int s.1), (0, va_rf (some this)), (1, .int its_)])) (s0 := (sum_1, k_2)) (n := 2000) (fun mm a b h => GG_sub [0, 1, 2, 3] rfl h)
  (fun s3 => (CE_2 wI (L_iload_n (x := s3.2) 0 X dX7_opens_4 rfl rfl) (XE_1 (L_aload_n (r := (some this)) 2 X dX7_opens_5 rfl rfl) (O_gi (c := 8) (j := 29) X rfl inW7 (by decide) fl_X7_146 rfl dX7_opens_6)) (C_lt_F X dX7_opens_9 (by decide))))
  (fun s3 => (ST_post (ST_let (XE_2 wI (L_iload_n (x := s3.1) 1 X dX7_opens_12 rfl rfl) (XE_tern (CE_and (CE_2 wI (XE_2 wR (XE_1 (L_aload_n (r := (some this)) 2 X dX7_opens_13 rfl rfl) (O_gr (c := 8) (j := 34) X rfl inW7 (by decide) fl_X7_102 rfl dX7_opens_14)) (L_iload_n (x := s3.2) 0 X dX7_opens_17 rfl rfl) (O_ai X dX7_opens_18)) (L_iload_n (x := its_) 3 X dX7_opens_19 rfl rfl) (C_eq_F X dX7_opens_20 (by decide))) (CE_1 (XE_2 (pB := pI) wR (L_aload_n (r := (some this)) 2 X dX7_opens_23 rfl rfl) (L_iload_n (x := s3.2) 0 X dX7_opens_24 rfl rfl) (fun v0 v1 st mm a b hd hc hs h => g_callVo (st := st) (cI := 8) X hT htr rfl (fun q => M_X7_isOpen q v1) lk_X7_isOpen im_X7_isOpen se_X7_isOpen ml_X7_264 rfl (by rw [hR]; exact ⟨Nat.le_of_ble_eq_true rfl, Nat.le_of_ble_eq_true rfl⟩) (Nat.le_trans hd (by decide)) ⟨hc, hs⟩ dX7_opens_25 h)) (Z_ne_F X dX7_opens_28 (by decide)))) (L_iconst (v := 1) X dX7_opens_31 (by decide)) (S_goto X dX7_opens_32 (by decide)) (L_iconst (v := 0) X dX7_opens_35 (by decide))) (O_iadd X dX7_opens_36)) (S_istore_n (ev := fun sum_19 => [(2, .int sum_19), (3, .int s3.2), (0, va_rf (some this)), (1, .int its_)]) X dX7_opens_37 rfl (by rw [hN]; decide) (fun _ => rfl)) fun sum_19 =>
  (ST_pre (env' := [(3, .int (s3.2 + 1)), (2, .int sum_19), (0, va_rf (some this)), (1, .int its_)]) (S_iinc 1 X dX7_opens_38 rfl rfl (by rw [hN]; decide) rfl)
  (ST_done (upd := (fun (s : Int32 × Int32) => [(3, .int s.2), (2, .int s.1), (0, va_rf (some this)), (1, .int its_)])) (s := (sum_19, (s3.2 + 1))) [0, 1, 2, 3] rfl))) fun _ mm a b h => S_goto X dX7_opens_41 (by decide) [] mm a b h))) fun s20 =>
  (SB_retI X C hr dX7_opens_45 (L_iload_n (x := s20.1) 1 X dX7_opens_44 rfl rfl))))) h (by rw [hR]; decide) (by rw [hR]; decide)
theorem dX7_take_0 : decode cX7_take 0 = .ok (.aload_n 0, 1) := by decide +kernel
theorem dX7_take_1 : decode cX7_take 1 = .ok (.iload_n 1, 1) := by decide +kernel
theorem dX7_take_2 : decode cX7_take 2 = .ok (.invokevirtual 267, 3) := by decide +kernel
theorem dX7_take_5 : decode cX7_take 5 = .ok (.istore_n 2, 1) := by decide +kernel
theorem dX7_take_6 : decode cX7_take 6 = .ok (.aload_n 0, 1) := by decide +kernel
theorem dX7_take_7 : decode cX7_take 7 = .ok (.iload_n 2, 1) := by decide +kernel
theorem dX7_take_8 : decode cX7_take 8 = .ok (.iload_n 2, 1) := by decide +kernel
theorem dX7_take_9 : decode cX7_take 9 = .ok (.ifCond .eq 15, 3) := by decide +kernel
theorem dX7_take_12 : decode cX7_take 12 = .ok (.aload_n 0, 1) := by decide +kernel
theorem dX7_take_13 : decode cX7_take 13 = .ok (.iload_n 1, 1) := by decide +kernel
theorem dX7_take_14 : decode cX7_take 14 = .ok (.invokevirtual 264, 3) := by decide +kernel
theorem dX7_take_17 : decode cX7_take 17 = .ok (.ifCond .eq 7, 3) := by decide +kernel
theorem dX7_take_20 : decode cX7_take 20 = .ok (.iconst 1, 1) := by decide +kernel
theorem dX7_take_21 : decode cX7_take 21 = .ok (.goto 4, 3) := by decide +kernel
theorem dX7_take_24 : decode cX7_take 24 = .ok (.iconst 0, 1) := by decide +kernel
theorem dX7_take_25 : decode cX7_take 25 = .ok (.iconst 1, 1) := by decide +kernel
theorem dX7_take_26 : decode cX7_take 26 = .ok (.invokevirtual 153, 3) := by decide +kernel
theorem dX7_take_29 : decode cX7_take 29 = .ok (.ifCond .ne 5, 3) := by decide +kernel
theorem dX7_take_32 : decode cX7_take 32 = .ok (.iconst 0, 1) := by decide +kernel
theorem dX7_take_33 : decode cX7_take 33 = .ok (.ireturn, 1) := by decide +kernel
theorem dX7_take_34 : decode cX7_take 34 = .ok (.aload_n 0, 1) := by decide +kernel
theorem dX7_take_35 : decode cX7_take 35 = .ok (.getfield 129, 3) := by decide +kernel
theorem dX7_take_38 : decode cX7_take 38 = .ok (.iload_n 1, 1) := by decide +kernel
theorem dX7_take_39 : decode cX7_take 39 = .ok (.iconst 1, 1) := by decide +kernel
theorem dX7_take_40 : decode cX7_take 40 = .ok (.bastore, 1) := by decide +kernel
theorem dX7_take_41 : decode cX7_take 41 = .ok (.aload_n 0, 1) := by decide +kernel
theorem dX7_take_42 : decode cX7_take 42 = .ok (.aload_n 0, 1) := by decide +kernel
theorem dX7_take_43 : decode cX7_take 43 = .ok (.getfield 102, 3) := by decide +kernel
theorem dX7_take_46 : decode cX7_take 46 = .ok (.iload_n 1, 1) := by decide +kernel
theorem dX7_take_47 : decode cX7_take 47 = .ok (.iaload, 1) := by decide +kernel
theorem dX7_take_48 : decode cX7_take 48 = .ok (.aload_n 0, 1) := by decide +kernel
theorem dX7_take_49 : decode cX7_take 49 = .ok (.getfield 111, 3) := by decide +kernel
theorem dX7_take_52 : decode cX7_take 52 = .ok (.iload_n 1, 1) := by decide +kernel
theorem dX7_take_53 : decode cX7_take 53 = .ok (.iaload, 1) := by decide +kernel
theorem dX7_take_54 : decode cX7_take 54 = .ok (.aload_n 0, 1) := by decide +kernel
theorem dX7_take_55 : decode cX7_take 55 = .ok (.getfield 123, 3) := by decide +kernel
theorem dX7_take_58 : decode cX7_take 58 = .ok (.iload_n 1, 1) := by decide +kernel
theorem dX7_take_59 : decode cX7_take 59 = .ok (.iaload, 1) := by decide +kernel
theorem dX7_take_60 : decode cX7_take 60 = .ok (.invokevirtual 229, 3) := by decide +kernel
theorem dX7_take_63 : decode cX7_take 63 = .ok (.ireturn, 1) := by decide +kernel
theorem lk_X7_take : LK yX7_take cX7_take 3 (some .int) 1 := ⟨qW_at 1632 (by decide +kernel) rfl, qW_at 78 (by decide +kernel) rfl, by decide, by decide, by decide +kernel⟩
theorem im_X7_take : Cond.instanceMethod yX7_take ∈ qW := qW_at 1630 (by decide +kernel) rfl
theorem se_X7_take : Cond.selects RX7 yX7_take yX7_take ∈ qW := qW_at 1631 (by decide +kernel) rfl
def F_X7_take (this : Nat) (message_ : Int32) : QX Int32 :=
  (xb (xb (xp (some this)) fun v1 => xb (xp message_) fun v2 => xo 8 v1 fun q => F_X7_isMessage q v2) fun is_3 =>
  (xb (xb (xb (xb (xp (some this)) fun v10 => xb (xp is_3) fun v11 => xb (xb (xb (xb (xp is_3) fun v4 => xp (decide (¬ v4 = 0))) fun v8 => if v8 then (xb (xb (xp (some this)) fun v5 => xb (xp message_) fun v6 => xo 8 v5 fun q => F_X7_isOpen q v6) fun v7 => xp (decide (¬ v7 = 0))) else xp false) fun v9 => xp (b2i v9)) fun v12 => xb (xp (1 : Int32)) fun v13 => xo 8 v10 fun q => F_X7_goes q v11 v12 v13) fun v14 => xp (decide (¬ v14 = 0))) fun v15 => xp (!v15)) fun v33 => if v33 then (xp (0 : Int32)) else
  (xb (xb (xb (xp (some this)) fun v16 => xgr 8 43 v16) fun v17 => xb (xp message_) fun v18 => xb (xp (1 : Int32)) fun v19 => xsaz v17 v18 v19) fun _ =>
  (xb (xp (some this)) fun v29 => xb (xb (xb (xp (some this)) fun v20 => xgr 8 34 v20) fun v21 => xb (xp message_) fun v22 => xai 0 v21 v22) fun v30 => xb (xb (xb (xp (some this)) fun v23 => xgr 8 37 v23) fun v24 => xb (xp message_) fun v25 => xai 0 v24 v25) fun v31 => xb (xb (xb (xp (some this)) fun v26 => xgr 8 41 v26) fun v27 => xb (xp message_) fun v28 => xai 0 v27 v28) fun v32 => xo 8 v29 fun q => F_X7_moves q v30 v31 v32))))
set_option maxRecDepth 100000 in
set_option maxHeartbeats 4000000 in
theorem M_X7_take (this : Nat) (message_ : Int32) : MM yX7_take cX7_take 3 (some .int) 5 115 0 0 encI [.ref this, .int message_] (F_X7_take this message_) := by
  refine MM_of (env0 := [(0, va_rf (some this)), (1, .int message_)]) (by decide) (by exact Nat.le_of_ble_eq_true rfl) (by rfl) (fun k mm res X C hR hN hr hname h => ?_)
  have X : CX k cX7_take RX7 := X
  have hT : TH k (fun e m' => res = (.error e, m')) := TH_of C
  have htr := C.2.2.2.1
  unfold F_X7_take at h
  exact SB_go (T := fun e m' => res = (.error e, m')) (RET := fun v m' => res = (.ok v, m')) (SB_let (XE_2 (pB := pI) wR (L_aload_n (r := (some this)) 0 X dX7_take_0 rfl rfl) (L_iload_n (x := message_) 1 X dX7_take_1 rfl rfl) (fun v0 v1 st mm a b hd hc hs h => g_callVo (st := st) (cI := 8) X hT htr rfl (fun q => M_X7_isMessage q v1) lk_X7_isMessage im_X7_isMessage se_X7_isMessage ml_X7_267 rfl (by rw [hR]; exact ⟨Nat.le_of_ble_eq_true rfl, Nat.le_of_ble_eq_true rfl⟩) (Nat.le_trans hd (by decide)) ⟨hc, hs⟩ dX7_take_2 h)) (S_istore_n (ev := fun is_3 => [(2, .int is_3), (0, va_rf (some this)), (1, .int message_)]) X dX7_take_5 rfl (by rw [hN]; decide) (fun _ => rfl)) fun is_3 =>
  (SB_if (CE_not (CE_1 (XE_4 (pB := pI) wR wI wI (L_aload_n (r := (some this)) 1 X dX7_take_6 rfl rfl) (L_iload_n (x := is_3) 0 X dX7_take_7 rfl rfl) (XE_b2i (CE_and (CE_1 (L_iload_n (x := is_3) 0 X dX7_take_8 rfl rfl) (Z_ne_F X dX7_take_9 (by decide))) (CE_1 (XE_2 (pB := pI) wR (L_aload_n (r := (some this)) 1 X dX7_take_12 rfl rfl) (L_iload_n (x := message_) 2 X dX7_take_13 rfl rfl) (fun v0 v1 st mm a b hd hc hs h => g_callVo (st := st) (cI := 8) X hT htr rfl (fun q => M_X7_isOpen q v1) lk_X7_isOpen im_X7_isOpen se_X7_isOpen ml_X7_264 rfl (by rw [hR]; exact ⟨Nat.le_of_ble_eq_true rfl, Nat.le_of_ble_eq_true rfl⟩) (Nat.le_trans hd (by decide)) ⟨hc, hs⟩ dX7_take_14 h)) (Z_ne_F X dX7_take_17 (by decide)))) (S_b1 X dX7_take_20 dX7_take_21 (by decide)) (S_b0 X dX7_take_24)) (L_iconst (v := 1) X dX7_take_25 (by decide)) (fun v0 v1 v2 v3 st mm a b hd hc hs h => g_callVo (st := st) (cI := 8) X hT htr rfl (fun q => M_X7_goes q v1 v2 v3) lk_X7_goes im_X7_goes se_X7_goes ml_X7_153 rfl (by rw [hR]; exact ⟨Nat.le_of_ble_eq_true rfl, Nat.le_of_ble_eq_true rfl⟩) (Nat.le_trans hd (by decide)) ⟨hc, hs⟩ dX7_take_26 h)) (Z_ne_T X dX7_take_29 (by decide))))
  (SB_retI X C hr dX7_take_33 (L_iconst (v := 0) X dX7_take_32 (by decide)))
  (SB_do (XE_3 wR wI (XE_1 (L_aload_n (r := (some this)) 1 X dX7_take_34 rfl rfl) (O_gr (c := 8) (j := 43) X rfl inW7 (by decide) fl_X7_129 rfl dX7_take_35)) (L_iload_n (x := message_) 2 X dX7_take_38 rfl rfl) (L_iconst (v := 1) X dX7_take_39 (by decide)) (O_saz X dX7_take_40))
  (SB_retI X C hr dX7_take_63 (XE_4 (pB := pI) wR wI wI (L_aload_n (r := (some this)) 1 X dX7_take_41 rfl rfl) (XE_2 wR (XE_1 (L_aload_n (r := (some this)) 1 X dX7_take_42 rfl rfl) (O_gr (c := 8) (j := 34) X rfl inW7 (by decide) fl_X7_102 rfl dX7_take_43)) (L_iload_n (x := message_) 2 X dX7_take_46 rfl rfl) (O_ai X dX7_take_47)) (XE_2 wR (XE_1 (L_aload_n (r := (some this)) 1 X dX7_take_48 rfl rfl) (O_gr (c := 8) (j := 37) X rfl inW7 (by decide) fl_X7_111 rfl dX7_take_49)) (L_iload_n (x := message_) 2 X dX7_take_52 rfl rfl) (O_ai X dX7_take_53)) (XE_2 wR (XE_1 (L_aload_n (r := (some this)) 1 X dX7_take_54 rfl rfl) (O_gr (c := 8) (j := 41) X rfl inW7 (by decide) fl_X7_123 rfl dX7_take_55)) (L_iload_n (x := message_) 2 X dX7_take_58 rfl rfl) (O_ai X dX7_take_59)) (fun v0 v1 v2 v3 st mm a b hd hc hs h => g_callVo (st := st) (cI := 8) X hT htr rfl (fun q => M_X7_moves q v1 v2 v3) lk_X7_moves im_X7_moves se_X7_moves ml_X7_229 rfl (by rw [hR]; exact ⟨Nat.le_of_ble_eq_true rfl, Nat.le_of_ble_eq_true rfl⟩) (Nat.le_trans hd (by decide)) ⟨hc, hs⟩ dX7_take_60 h)))))) h (by rw [hR]; decide) (by rw [hR]; decide)
theorem dX7_refuse_0 : decode cX7_refuse 0 = .ok (.aload_n 0, 1) := by decide +kernel
theorem dX7_refuse_1 : decode cX7_refuse 1 = .ok (.iload_n 1, 1) := by decide +kernel
theorem dX7_refuse_2 : decode cX7_refuse 2 = .ok (.invokevirtual 267, 3) := by decide +kernel
theorem dX7_refuse_5 : decode cX7_refuse 5 = .ok (.istore_n 2, 1) := by decide +kernel
theorem dX7_refuse_6 : decode cX7_refuse 6 = .ok (.aload_n 0, 1) := by decide +kernel
theorem dX7_refuse_7 : decode cX7_refuse 7 = .ok (.iload_n 2, 1) := by decide +kernel
theorem dX7_refuse_8 : decode cX7_refuse 8 = .ok (.iload_n 2, 1) := by decide +kernel
theorem dX7_refuse_9 : decode cX7_refuse 9 = .ok (.ifCond .eq 15, 3) := by decide +kernel
theorem dX7_refuse_12 : decode cX7_refuse 12 = .ok (.aload_n 0, 1) := by decide +kernel
theorem dX7_refuse_13 : decode cX7_refuse 13 = .ok (.iload_n 1, 1) := by decide +kernel
theorem dX7_refuse_14 : decode cX7_refuse 14 = .ok (.invokevirtual 264, 3) := by decide +kernel
theorem dX7_refuse_17 : decode cX7_refuse 17 = .ok (.ifCond .eq 7, 3) := by decide +kernel
theorem dX7_refuse_20 : decode cX7_refuse 20 = .ok (.iconst 1, 1) := by decide +kernel
theorem dX7_refuse_21 : decode cX7_refuse 21 = .ok (.goto 4, 3) := by decide +kernel
theorem dX7_refuse_24 : decode cX7_refuse 24 = .ok (.iconst 0, 1) := by decide +kernel
theorem dX7_refuse_25 : decode cX7_refuse 25 = .ok (.iconst 1, 1) := by decide +kernel
theorem dX7_refuse_26 : decode cX7_refuse 26 = .ok (.invokevirtual 153, 3) := by decide +kernel
theorem dX7_refuse_29 : decode cX7_refuse 29 = .ok (.ifCond .ne 5, 3) := by decide +kernel
theorem dX7_refuse_32 : decode cX7_refuse 32 = .ok (.iconst 0, 1) := by decide +kernel
theorem dX7_refuse_33 : decode cX7_refuse 33 = .ok (.ireturn, 1) := by decide +kernel
theorem dX7_refuse_34 : decode cX7_refuse 34 = .ok (.aload_n 0, 1) := by decide +kernel
theorem dX7_refuse_35 : decode cX7_refuse 35 = .ok (.getfield 129, 3) := by decide +kernel
theorem dX7_refuse_38 : decode cX7_refuse 38 = .ok (.iload_n 1, 1) := by decide +kernel
theorem dX7_refuse_39 : decode cX7_refuse 39 = .ok (.iconst 1, 1) := by decide +kernel
theorem dX7_refuse_40 : decode cX7_refuse 40 = .ok (.bastore, 1) := by decide +kernel
theorem dX7_refuse_41 : decode cX7_refuse 41 = .ok (.aload_n 0, 1) := by decide +kernel
theorem dX7_refuse_42 : decode cX7_refuse 42 = .ok (.aload_n 0, 1) := by decide +kernel
theorem dX7_refuse_43 : decode cX7_refuse 43 = .ok (.getfield 102, 3) := by decide +kernel
theorem dX7_refuse_46 : decode cX7_refuse 46 = .ok (.iload_n 1, 1) := by decide +kernel
theorem dX7_refuse_47 : decode cX7_refuse 47 = .ok (.iaload, 1) := by decide +kernel
theorem dX7_refuse_48 : decode cX7_refuse 48 = .ok (.invokevirtual 270, 3) := by decide +kernel
theorem dX7_refuse_51 : decode cX7_refuse 51 = .ok (.ireturn, 1) := by decide +kernel
theorem lk_X7_refuse : LK yX7_refuse cX7_refuse 3 (some .int) 1 := ⟨qW_at 1648 (by decide +kernel) rfl, qW_at 78 (by decide +kernel) rfl, by decide, by decide, by decide +kernel⟩
theorem im_X7_refuse : Cond.instanceMethod yX7_refuse ∈ qW := qW_at 1646 (by decide +kernel) rfl
theorem se_X7_refuse : Cond.selects RX7 yX7_refuse yX7_refuse ∈ qW := qW_at 1647 (by decide +kernel) rfl
def F_X7_refuse (this : Nat) (message_ : Int32) : QX Int32 :=
  (xb (xb (xp (some this)) fun v1 => xb (xp message_) fun v2 => xo 8 v1 fun q => F_X7_isMessage q v2) fun is_3 =>
  (xb (xb (xb (xb (xp (some this)) fun v10 => xb (xp is_3) fun v11 => xb (xb (xb (xb (xp is_3) fun v4 => xp (decide (¬ v4 = 0))) fun v8 => if v8 then (xb (xb (xp (some this)) fun v5 => xb (xp message_) fun v6 => xo 8 v5 fun q => F_X7_isOpen q v6) fun v7 => xp (decide (¬ v7 = 0))) else xp false) fun v9 => xp (b2i v9)) fun v12 => xb (xp (1 : Int32)) fun v13 => xo 8 v10 fun q => F_X7_goes q v11 v12 v13) fun v14 => xp (decide (¬ v14 = 0))) fun v15 => xp (!v15)) fun v25 => if v25 then (xp (0 : Int32)) else
  (xb (xb (xb (xp (some this)) fun v16 => xgr 8 43 v16) fun v17 => xb (xp message_) fun v18 => xb (xp (1 : Int32)) fun v19 => xsaz v17 v18 v19) fun _ =>
  (xb (xp (some this)) fun v23 => xb (xb (xb (xp (some this)) fun v20 => xgr 8 34 v20) fun v21 => xb (xp message_) fun v22 => xai 0 v21 v22) fun v24 => xo 8 v23 fun q => F_X7_opens q v24))))
set_option maxRecDepth 100000 in
set_option maxHeartbeats 4000000 in
theorem M_X7_refuse (this : Nat) (message_ : Int32) : MM yX7_refuse cX7_refuse 3 (some .int) 3 68 0 0 encI [.ref this, .int message_] (F_X7_refuse this message_) := by
  refine MM_of (env0 := [(0, va_rf (some this)), (1, .int message_)]) (by decide) (by exact Nat.le_of_ble_eq_true rfl) (by rfl) (fun k mm res X C hR hN hr hname h => ?_)
  have X : CX k cX7_refuse RX7 := X
  have hT : TH k (fun e m' => res = (.error e, m')) := TH_of C
  have htr := C.2.2.2.1
  unfold F_X7_refuse at h
  exact SB_go (T := fun e m' => res = (.error e, m')) (RET := fun v m' => res = (.ok v, m')) (SB_let (XE_2 (pB := pI) wR (L_aload_n (r := (some this)) 0 X dX7_refuse_0 rfl rfl) (L_iload_n (x := message_) 1 X dX7_refuse_1 rfl rfl) (fun v0 v1 st mm a b hd hc hs h => g_callVo (st := st) (cI := 8) X hT htr rfl (fun q => M_X7_isMessage q v1) lk_X7_isMessage im_X7_isMessage se_X7_isMessage ml_X7_267 rfl (by rw [hR]; exact ⟨Nat.le_of_ble_eq_true rfl, Nat.le_of_ble_eq_true rfl⟩) (Nat.le_trans hd (by decide)) ⟨hc, hs⟩ dX7_refuse_2 h)) (S_istore_n (ev := fun is_3 => [(2, .int is_3), (0, va_rf (some this)), (1, .int message_)]) X dX7_refuse_5 rfl (by rw [hN]; decide) (fun _ => rfl)) fun is_3 =>
  (SB_if (CE_not (CE_1 (XE_4 (pB := pI) wR wI wI (L_aload_n (r := (some this)) 1 X dX7_refuse_6 rfl rfl) (L_iload_n (x := is_3) 0 X dX7_refuse_7 rfl rfl) (XE_b2i (CE_and (CE_1 (L_iload_n (x := is_3) 0 X dX7_refuse_8 rfl rfl) (Z_ne_F X dX7_refuse_9 (by decide))) (CE_1 (XE_2 (pB := pI) wR (L_aload_n (r := (some this)) 1 X dX7_refuse_12 rfl rfl) (L_iload_n (x := message_) 2 X dX7_refuse_13 rfl rfl) (fun v0 v1 st mm a b hd hc hs h => g_callVo (st := st) (cI := 8) X hT htr rfl (fun q => M_X7_isOpen q v1) lk_X7_isOpen im_X7_isOpen se_X7_isOpen ml_X7_264 rfl (by rw [hR]; exact ⟨Nat.le_of_ble_eq_true rfl, Nat.le_of_ble_eq_true rfl⟩) (Nat.le_trans hd (by decide)) ⟨hc, hs⟩ dX7_refuse_14 h)) (Z_ne_F X dX7_refuse_17 (by decide)))) (S_b1 X dX7_refuse_20 dX7_refuse_21 (by decide)) (S_b0 X dX7_refuse_24)) (L_iconst (v := 1) X dX7_refuse_25 (by decide)) (fun v0 v1 v2 v3 st mm a b hd hc hs h => g_callVo (st := st) (cI := 8) X hT htr rfl (fun q => M_X7_goes q v1 v2 v3) lk_X7_goes im_X7_goes se_X7_goes ml_X7_153 rfl (by rw [hR]; exact ⟨Nat.le_of_ble_eq_true rfl, Nat.le_of_ble_eq_true rfl⟩) (Nat.le_trans hd (by decide)) ⟨hc, hs⟩ dX7_refuse_26 h)) (Z_ne_T X dX7_refuse_29 (by decide))))
  (SB_retI X C hr dX7_refuse_33 (L_iconst (v := 0) X dX7_refuse_32 (by decide)))
  (SB_do (XE_3 wR wI (XE_1 (L_aload_n (r := (some this)) 1 X dX7_refuse_34 rfl rfl) (O_gr (c := 8) (j := 43) X rfl inW7 (by decide) fl_X7_129 rfl dX7_refuse_35)) (L_iload_n (x := message_) 2 X dX7_refuse_38 rfl rfl) (L_iconst (v := 1) X dX7_refuse_39 (by decide)) (O_saz X dX7_refuse_40))
  (SB_retI X C hr dX7_refuse_51 (XE_2 (pB := pI) wR (L_aload_n (r := (some this)) 1 X dX7_refuse_41 rfl rfl) (XE_2 wR (XE_1 (L_aload_n (r := (some this)) 1 X dX7_refuse_42 rfl rfl) (O_gr (c := 8) (j := 34) X rfl inW7 (by decide) fl_X7_102 rfl dX7_refuse_43)) (L_iload_n (x := message_) 2 X dX7_refuse_46 rfl rfl) (O_ai X dX7_refuse_47)) (fun v0 v1 st mm a b hd hc hs h => g_callVo (st := st) (cI := 8) X hT htr rfl (fun q => M_X7_opens q v1) lk_X7_opens im_X7_opens se_X7_opens ml_X7_270 rfl (by rw [hR]; exact ⟨Nat.le_of_ble_eq_true rfl, Nat.le_of_ble_eq_true rfl⟩) (Nat.le_trans hd (by decide)) ⟨hc, hs⟩ dX7_refuse_48 h)))))) h (by rw [hR]; decide) (by rw [hR]; decide)
