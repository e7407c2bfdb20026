/-! the law's larger methods: computations over its state, and their contracts -/
theorem dL_low_0 : decode cL_low 0 = .ok (.iload_n 0, 1) := by decide +kernel
theorem dL_low_1 : decode cL_low 1 = .ok (.ldc 9, 2) := by decide +kernel
theorem dL_low_3 : decode cL_low 3 = .ok (.iand, 1) := by decide +kernel
theorem dL_low_4 : decode cL_low 4 = .ok (.iload_n 1, 1) := by decide +kernel
theorem dL_low_5 : decode cL_low 5 = .ok (.irem, 1) := by decide +kernel
theorem dL_low_6 : decode cL_low 6 = .ok (.ireturn, 1) := by decide +kernel
theorem lk_L_low : LK yL_low cL_low 2 (some .int) 2 := ⟨qW_at 369 (by decide +kernel) rfl, qW_at 28 (by decide +kernel) rfl, by decide, by decide, by decide +kernel⟩
theorem st_L_low : Cond.static yL_low ∈ qW := qW_at 368 (by decide +kernel) rfl
def F_L_low (sv : Nat) (v_ n_ : Int32) : LX Int32 :=
  (lb (lb (lp v_) fun v1 => lb (lp (I 2147483647)) fun v2 => (lp (v1 &&& v2))) fun v3 => lb (lp n_) fun v4 => (lrem v3 v4))
set_option maxRecDepth 100000 in
set_option maxHeartbeats 4000000 in
theorem M_L_low (sv : Nat) (v_ n_ : Int32) : LM yL_low cL_low 2 (some .int) 0 0 0 0 [.int v_, .int n_] sv (F_L_low sv v_ n_) := by
  refine LM_of (env0 := [(0, .int v_), (1, .int n_)]) (by decide) (by exact Nat.le_of_ble_eq_true rfl) rfl (fun k R X C hR hN hr L0 h0 => ?_)
  have X : CX k cL_low RL := X
  have htr := C.2.2.2.1
  unfold F_L_low at h0
  exact KSB_go (kretI X C hr dL_low_6 (KXE_2 wI (KXE_2 wI (kX (L_iload_n (x := v_) 0 X dL_low_0 rfl rfl)) (kX (L_ldc (v := I 2147483647) X dL_low_1 kd_L_9)) (k2 (O_iand X dL_low_3))) (kX (L_iload_n (x := n_) 1 X dL_low_4 rfl rfl)) (krem X dL_low_5))) h0 (by rw [hR]; exact Nat.le_of_ble_eq_true rfl) (by rw [hR]; exact Nat.le_of_ble_eq_true rfl)
theorem dL_isClock_0 : decode cL_isClock 0 = .ok (.aload_n 0, 1) := by decide +kernel
theorem dL_isClock_1 : decode cL_isClock 1 = .ok (.iload_n 1, 1) := by decide +kernel
theorem dL_isClock_2 : decode cL_isClock 2 = .ok (.iload_n 2, 1) := by decide +kernel
theorem dL_isClock_3 : decode cL_isClock 3 = .ok (.iconst 1, 1) := by decide +kernel
theorem dL_isClock_4 : decode cL_isClock 4 = .ok (.isub, 1) := by decide +kernel
theorem dL_isClock_5 : decode cL_isClock 5 = .ok (.invokestatic 153, 3) := by decide +kernel
theorem dL_isClock_8 : decode cL_isClock 8 = .ok (.istore_n 3, 1) := by decide +kernel
theorem dL_isClock_9 : decode cL_isClock 9 = .ok (.iload_n 2, 1) := by decide +kernel
theorem dL_isClock_10 : decode cL_isClock 10 = .ok (.istore 4, 2) := by decide +kernel
theorem dL_isClock_12 : decode cL_isClock 12 = .ok (.iload 4, 2) := by decide +kernel
theorem dL_isClock_14 : decode cL_isClock 14 = .ok (.iload_n 2, 1) := by decide +kernel
theorem dL_isClock_15 : decode cL_isClock 15 = .ok (.bipush 30, 2) := by decide +kernel
theorem dL_isClock_17 : decode cL_isClock 17 = .ok (.iadd, 1) := by decide +kernel
theorem dL_isClock_18 : decode cL_isClock 18 = .ok (.if_icmp .ge 108, 3) := by decide +kernel
theorem dL_isClock_21 : decode cL_isClock 21 = .ok (.aload_n 0, 1) := by decide +kernel
theorem dL_isClock_22 : decode cL_isClock 22 = .ok (.iload_n 1, 1) := by decide +kernel
theorem dL_isClock_23 : decode cL_isClock 23 = .ok (.iload 4, 2) := by decide +kernel
theorem dL_isClock_25 : decode cL_isClock 25 = .ok (.invokestatic 153, 3) := by decide +kernel
theorem dL_isClock_28 : decode cL_isClock 28 = .ok (.istore 5, 2) := by decide +kernel
theorem dL_isClock_30 : decode cL_isClock 30 = .ok (.aload_n 0, 1) := by decide +kernel
theorem dL_isClock_31 : decode cL_isClock 31 = .ok (.iload_n 1, 1) := by decide +kernel
theorem dL_isClock_32 : decode cL_isClock 32 = .ok (.iload 5, 2) := by decide +kernel
theorem dL_isClock_34 : decode cL_isClock 34 = .ok (.invokestatic 158, 3) := by decide +kernel
theorem dL_isClock_37 : decode cL_isClock 37 = .ok (.istore 6, 2) := by decide +kernel
theorem dL_isClock_39 : decode cL_isClock 39 = .ok (.iload 5, 2) := by decide +kernel
theorem dL_isClock_41 : decode cL_isClock 41 = .ok (.iload_n 3, 1) := by decide +kernel
theorem dL_isClock_42 : decode cL_isClock 42 = .ok (.isub, 1) := by decide +kernel
theorem dL_isClock_43 : decode cL_isClock 43 = .ok (.ifCond .lt 49, 3) := by decide +kernel
theorem dL_isClock_46 : decode cL_isClock 46 = .ok (.iload 5, 2) := by decide +kernel
theorem dL_isClock_48 : decode cL_isClock 48 = .ok (.iload_n 3, 1) := by decide +kernel
theorem dL_isClock_49 : decode cL_isClock 49 = .ok (.isub, 1) := by decide +kernel
theorem dL_isClock_50 : decode cL_isClock 50 = .ok (.iconst 2, 1) := by decide +kernel
theorem dL_isClock_51 : decode cL_isClock 51 = .ok (.if_icmp .gt 41, 3) := by decide +kernel
theorem dL_isClock_54 : decode cL_isClock 54 = .ok (.iload 6, 2) := by decide +kernel
theorem dL_isClock_56 : decode cL_isClock 56 = .ok (.iload 4, 2) := by decide +kernel
theorem dL_isClock_58 : decode cL_isClock 58 = .ok (.if_icmp .eq 18, 3) := by decide +kernel
theorem dL_isClock_61 : decode cL_isClock 61 = .ok (.iload 6, 2) := by decide +kernel
theorem dL_isClock_63 : decode cL_isClock 63 = .ok (.iload 4, 2) := by decide +kernel
theorem dL_isClock_65 : decode cL_isClock 65 = .ok (.iconst 1, 1) := by decide +kernel
theorem dL_isClock_66 : decode cL_isClock 66 = .ok (.isub, 1) := by decide +kernel
theorem dL_isClock_67 : decode cL_isClock 67 = .ok (.if_icmp .ne 25, 3) := by decide +kernel
theorem dL_isClock_70 : decode cL_isClock 70 = .ok (.iload 5, 2) := by decide +kernel
theorem dL_isClock_72 : decode cL_isClock 72 = .ok (.iload_n 3, 1) := by decide +kernel
theorem dL_isClock_73 : decode cL_isClock 73 = .ok (.if_icmp .ne 19, 3) := by decide +kernel
theorem dL_isClock_76 : decode cL_isClock 76 = .ok (.iload 5, 2) := by decide +kernel
theorem dL_isClock_78 : decode cL_isClock 78 = .ok (.iload_n 3, 1) := by decide +kernel
theorem dL_isClock_79 : decode cL_isClock 79 = .ok (.isub, 1) := by decide +kernel
theorem dL_isClock_80 : decode cL_isClock 80 = .ok (.ifCond .ne 14, 3) := by decide +kernel
theorem dL_isClock_83 : decode cL_isClock 83 = .ok (.iload 6, 2) := by decide +kernel
theorem dL_isClock_85 : decode cL_isClock 85 = .ok (.iload 4, 2) := by decide +kernel
theorem dL_isClock_87 : decode cL_isClock 87 = .ok (.iconst 1, 1) := by decide +kernel
theorem dL_isClock_88 : decode cL_isClock 88 = .ok (.isub, 1) := by decide +kernel
theorem dL_isClock_89 : decode cL_isClock 89 = .ok (.if_icmp .eq 5, 3) := by decide +kernel
theorem dL_isClock_92 : decode cL_isClock 92 = .ok (.iconst 0, 1) := by decide +kernel
theorem dL_isClock_93 : decode cL_isClock 93 = .ok (.ireturn, 1) := by decide +kernel
theorem dL_isClock_94 : decode cL_isClock 94 = .ok (.iload 5, 2) := by decide +kernel
theorem dL_isClock_96 : decode cL_isClock 96 = .ok (.iload_n 3, 1) := by decide +kernel
theorem dL_isClock_97 : decode cL_isClock 97 = .ok (.isub, 1) := by decide +kernel
theorem dL_isClock_98 : decode cL_isClock 98 = .ok (.iconst 2, 1) := by decide +kernel
theorem dL_isClock_99 : decode cL_isClock 99 = .ok (.if_icmp .ne 18, 3) := by decide +kernel
theorem dL_isClock_102 : decode cL_isClock 102 = .ok (.aload_n 0, 1) := by decide +kernel
theorem dL_isClock_103 : decode cL_isClock 103 = .ok (.iload_n 1, 1) := by decide +kernel
theorem dL_isClock_104 : decode cL_isClock 104 = .ok (.iload_n 3, 1) := by decide +kernel
theorem dL_isClock_105 : decode cL_isClock 105 = .ok (.iconst 1, 1) := by decide +kernel
theorem dL_isClock_106 : decode cL_isClock 106 = .ok (.iadd, 1) := by decide +kernel
theorem dL_isClock_107 : decode cL_isClock 107 = .ok (.invokestatic 158, 3) := by decide +kernel
theorem dL_isClock_110 : decode cL_isClock 110 = .ok (.iload 4, 2) := by decide +kernel
theorem dL_isClock_112 : decode cL_isClock 112 = .ok (.if_icmp .eq 5, 3) := by decide +kernel
theorem dL_isClock_115 : decode cL_isClock 115 = .ok (.iconst 0, 1) := by decide +kernel
theorem dL_isClock_116 : decode cL_isClock 116 = .ok (.ireturn, 1) := by decide +kernel
theorem dL_isClock_117 : decode cL_isClock 117 = .ok (.iload 5, 2) := by decide +kernel
theorem dL_isClock_119 : decode cL_isClock 119 = .ok (.istore_n 3, 1) := by decide +kernel
theorem dL_isClock_120 : decode cL_isClock 120 = .ok (.iinc 4 1, 3) := by decide +kernel
theorem dL_isClock_123 : decode cL_isClock 123 = .ok (.goto (-111), 3) := by decide +kernel
theorem dL_isClock_126 : decode cL_isClock 126 = .ok (.aload_n 0, 1) := by decide +kernel
theorem dL_isClock_127 : decode cL_isClock 127 = .ok (.iconst 3, 1) := by decide +kernel
theorem dL_isClock_128 : decode cL_isClock 128 = .ok (.iconst 0, 1) := by decide +kernel
theorem dL_isClock_129 : decode cL_isClock 129 = .ok (.invokestatic 153, 3) := by decide +kernel
theorem dL_isClock_132 : decode cL_isClock 132 = .ok (.ldc 18, 2) := by decide +kernel
theorem dL_isClock_134 : decode cL_isClock 134 = .ok (.if_icmp .ne 56, 3) := by decide +kernel
theorem dL_isClock_137 : decode cL_isClock 137 = .ok (.aload_n 0, 1) := by decide +kernel
theorem dL_isClock_138 : decode cL_isClock 138 = .ok (.iload_n 1, 1) := by decide +kernel
theorem dL_isClock_139 : decode cL_isClock 139 = .ok (.sipush 2001, 3) := by decide +kernel
theorem dL_isClock_142 : decode cL_isClock 142 = .ok (.invokestatic 153, 3) := by decide +kernel
theorem dL_isClock_145 : decode cL_isClock 145 = .ok (.ldc 21, 2) := by decide +kernel
theorem dL_isClock_147 : decode cL_isClock 147 = .ok (.if_icmp .ne 43, 3) := by decide +kernel
theorem dL_isClock_150 : decode cL_isClock 150 = .ok (.aload_n 0, 1) := by decide +kernel
theorem dL_isClock_151 : decode cL_isClock 151 = .ok (.iload_n 1, 1) := by decide +kernel
theorem dL_isClock_152 : decode cL_isClock 152 = .ok (.bipush (-101), 2) := by decide +kernel
theorem dL_isClock_154 : decode cL_isClock 154 = .ok (.invokestatic 153, 3) := by decide +kernel
theorem dL_isClock_157 : decode cL_isClock 157 = .ok (.ldc 21, 2) := by decide +kernel
theorem dL_isClock_159 : decode cL_isClock 159 = .ok (.if_icmp .ne 31, 3) := by decide +kernel
theorem dL_isClock_162 : decode cL_isClock 162 = .ok (.aload_n 0, 1) := by decide +kernel
theorem dL_isClock_163 : decode cL_isClock 163 = .ok (.iconst (-1), 1) := by decide +kernel
theorem dL_isClock_164 : decode cL_isClock 164 = .ok (.iconst 0, 1) := by decide +kernel
theorem dL_isClock_165 : decode cL_isClock 165 = .ok (.invokestatic 158, 3) := by decide +kernel
theorem dL_isClock_168 : decode cL_isClock 168 = .ok (.ldc 18, 2) := by decide +kernel
theorem dL_isClock_170 : decode cL_isClock 170 = .ok (.if_icmp .ne 20, 3) := by decide +kernel
theorem dL_isClock_173 : decode cL_isClock 173 = .ok (.aload_n 0, 1) := by decide +kernel
theorem dL_isClock_174 : decode cL_isClock 174 = .ok (.iload_n 1, 1) := by decide +kernel
theorem dL_isClock_175 : decode cL_isClock 175 = .ok (.sipush 2001, 3) := by decide +kernel
theorem dL_isClock_178 : decode cL_isClock 178 = .ok (.invokestatic 158, 3) := by decide +kernel
theorem dL_isClock_181 : decode cL_isClock 181 = .ok (.ldc 21, 2) := by decide +kernel
theorem dL_isClock_183 : decode cL_isClock 183 = .ok (.if_icmp .ne 7, 3) := by decide +kernel
theorem dL_isClock_186 : decode cL_isClock 186 = .ok (.iconst 1, 1) := by decide +kernel
theorem dL_isClock_187 : decode cL_isClock 187 = .ok (.goto 4, 3) := by decide +kernel
theorem dL_isClock_190 : decode cL_isClock 190 = .ok (.iconst 0, 1) := by decide +kernel
theorem dL_isClock_191 : decode cL_isClock 191 = .ok (.ireturn, 1) := by decide +kernel
theorem lk_L_isClock : LK yL_isClock cL_isClock 7 (some .boolean) 3 := ⟨qW_at 373 (by decide +kernel) rfl, qW_at 28 (by decide +kernel) rfl, by decide, by decide, by decide +kernel⟩
theorem st_L_isClock : Cond.static yL_isClock ∈ qW := qW_at 372 (by decide +kernel) rfl
def F_L_isClock (sv : Nat) (zone_ from_ : Int32) : LX Int32 :=
  (lb (lb (lp (some sv)) fun v3 => lb (lp zone_) fun v4 => lb (lb (lp from_) fun v1 => lb (lp (I 1)) fun v2 => (lp (v1 - v2))) fun v5 => lgo v3 sv (w_local v4 v5)) fun last_6 =>
  (lb (lp from_) fun k_7 =>
  (lb (llr 31 (fun (s8 : Int32 × Int32) => (lb (lp s8.2) fun v9 => lb (lb (lp from_) fun v10 => lb (lp (I 30)) fun v11 => (lp (v10 + v11))) fun v12 => lp (decide (v9 < v12)))) (fun (s8 : Int32 × Int32) =>
  (lb (lb (lp (some sv)) fun v13 => lb (lp zone_) fun v14 => lb (lp s8.2) fun v15 => lgo v13 sv (w_local v14 v15)) fun local_16 =>
  (lb (lb (lp (some sv)) fun v17 => lb (lp zone_) fun v18 => lb (lp local_16) fun v19 => lgo v17 sv (w_common v18 v19)) fun back_20 =>
  (lb (lb (lb (lb (lb (lb (lp local_16) fun v21 => lb (lp s8.1) fun v22 => (lp (v21 - v22))) fun v23 => lp (decide (v23 < 0))) fun v28 => if v28 then lp true else (lb (lb (lp local_16) fun v24 => lb (lp s8.1) fun v25 => (lp (v24 - v25))) fun v26 => lb (lp (I 2)) fun v27 => lp (decide (v27 < v26)))) fun v39 => if v39 then lp true else (lb (lb (lp back_20) fun v29 => lb (lp s8.2) fun v30 => lp (decide (¬ v29 = v30))) fun v38 => if v38 then (lb (lb (lp back_20) fun v31 => lb (lb (lp s8.2) fun v32 => lb (lp (I 1)) fun v33 => (lp (v32 - v33))) fun v34 => lp (decide (¬ v31 = v34))) fun v37 => if v37 then lp true else (lb (lp local_16) fun v35 => lb (lp s8.1) fun v36 => lp (decide (¬ v35 = v36)))) else lp false)) fun v48 => if v48 then lp true else (lb (lb (lb (lp local_16) fun v40 => lb (lp s8.1) fun v41 => (lp (v40 - v41))) fun v42 => lp (decide (v42 = 0))) fun v47 => if v47 then (lb (lp back_20) fun v43 => lb (lb (lp s8.2) fun v44 => lb (lp (I 1)) fun v45 => (lp (v44 - v45))) fun v46 => lp (decide (¬ v43 = v46))) else lp false)) fun v65 => if v65 then (lb (lb (lp (I 0)) lz) fun v66 => lp (Sum.inl v66)) else
  (lb (lb (lb (lb (lp local_16) fun v49 => lb (lp s8.1) fun v50 => (lp (v49 - v50))) fun v51 => lb (lp (I 2)) fun v52 => lp (decide (v51 = v52))) fun v60 => if v60 then (lb (lb (lp (some sv)) fun v55 => lb (lp zone_) fun v56 => lb (lb (lp s8.1) fun v53 => lb (lp (I 1)) fun v54 => (lp (v53 + v54))) fun v57 => lgo v55 sv (w_common v56 v57)) fun v58 => lb (lp s8.2) fun v59 => lp (decide (¬ v58 = v59))) else lp false) fun v63 => if v63 then (lb (lb (lp (I 0)) lz) fun v64 => lp (Sum.inl v64)) else
  (lb (lb (lp local_16) fun last_61 =>
  (lp (last_61, (s8.2 + 1)))) fun s62 => lp (Sum.inr s62))))))) (last_6, k_7)) fun r98 => lsum r98 fun s67 =>
  (lb (lb (lb (lb (lb (lb (lb (lb (lp (some sv)) fun v68 => lb (lp (I 3)) fun v69 => lb (lp (I 0)) fun v70 => lgo v68 sv (w_local v69 v70)) fun v71 => lb (lp (I (-1000001))) fun v72 => lp (decide (v71 = v72))) fun v78 => if v78 then (lb (lb (lp (some sv)) fun v73 => lb (lp zone_) fun v74 => lb (lp (I 2001)) fun v75 => lgo v73 sv (w_local v74 v75)) fun v76 => lb (lp (I (-1000002))) fun v77 => lp (decide (v76 = v77))) else lp false) fun v84 => if v84 then (lb (lb (lp (some sv)) fun v79 => lb (lp zone_) fun v80 => lb (lp (I (-101))) fun v81 => lgo v79 sv (w_local v80 v81)) fun v82 => lb (lp (I (-1000002))) fun v83 => lp (decide (v82 = v83))) else lp false) fun v90 => if v90 then (lb (lb (lp (some sv)) fun v85 => lb (lp (I (-1))) fun v86 => lb (lp (I 0)) fun v87 => lgo v85 sv (w_common v86 v87)) fun v88 => lb (lp (I (-1000001))) fun v89 => lp (decide (v88 = v89))) else lp false) fun v96 => if v96 then (lb (lb (lp (some sv)) fun v91 => lb (lp zone_) fun v92 => lb (lp (I 2001)) fun v93 => lgo v91 sv (w_common v92 v93)) fun v94 => lb (lp (I (-1000002))) fun v95 => lp (decide (v94 = v95))) else lp false) fun v97 => lp (b2i v97)) lz))))
set_option maxRecDepth 100000 in
set_option maxHeartbeats 4000000 in
theorem M_L_isClock (sv : Nat) (zone_ from_ : Int32) : LM yL_isClock cL_isClock 7 (some .boolean) 10 169 198 1188 [.ref sv, .int zone_, .int from_] sv (F_L_isClock sv zone_ from_) := by
  refine LM_of (env0 := [(0, va_rf (some sv)), (1, .int zone_), (2, .int from_)]) (by decide) (by exact Nat.le_of_ble_eq_true rfl) rfl (fun k R X C hR hN hr L0 h0 => ?_)
  have X : CX k cL_isClock RL := X
  have htr := C.2.2.2.1
  unfold F_L_isClock at h0
  exact KSB_go (KSB_let (KXE_3 (pB := pI) wR wI (kX (L_aload_n (r := (some sv)) 0 X dL_isClock_0 rfl rfl)) (kX (L_iload_n (x := zone_) 1 X dL_isClock_1 rfl rfl)) (KXE_2 wI (kX (L_iload_n (x := from_) 2 X dL_isClock_2 rfl rfl)) (kX (L_iconst (v := I 1) X dL_isClock_3 (by decide))) (k2 (O_isub X dL_isClock_4))) (fun v0 v1 v2 st L a b hd hc hs h => by obtain ⟨rfl, h1⟩ := lgo_of h; exact k_callH (st := st) X htr (E_L_local sv v1 v2) lkh_local stl_local ml_L_153 rfl (by rw [hR]; exact ⟨Nat.le_of_ble_eq_true rfl, Nat.le_of_ble_eq_true rfl⟩) (Nat.le_trans hd (by decide)) ⟨hc, hs⟩ dL_isClock_5 h1)) (kS (S_istore_n (ev := fun last_6 => [(3, .int last_6), (0, va_rf (some sv)), (1, .int zone_), (2, .int from_)]) X dL_isClock_8 rfl (by rw [hN]; decide) (fun _ => rfl))) fun last_6 =>
  (KSB_let (kX (L_iload_n (x := from_) 3 X dL_isClock_9 rfl rfl)) (kS (S_istore (ev := fun k_7 => [(4, .int k_7), (3, .int last_6), (0, va_rf (some sv)), (1, .int zone_), (2, .int from_)]) X dL_isClock_10 (by rw [hN]; decide) (fun _ => rfl))) fun k_7 =>
  (KSB_seqR (KSTR_loop (σ := Int32 × Int32) (upd := (fun (s : Int32 × Int32) => [(4, .int s.2), (3, .int s.1), (0, va_rf (some sv)), (1, .int zone_), (2, .int from_)])) (s0 := (last_6, k_7)) (n := 31) (fun L a b h => GL_sub [0, 1, 2, 3, 4] rfl h)
  (fun s8 => (KCE_2 wI (kX (L_iload (x := s8.2) 0 X dL_isClock_12 rfl)) (KXE_2 wI (kX (L_iload_n (x := from_) 4 X dL_isClock_14 rfl rfl)) (kX (L_bipush (v := I 30) X dL_isClock_15 (by decide))) (k2 (O_iadd X dL_isClock_17))) (kF2 (C_lt_F X dL_isClock_18 (by decide)))))
  (fun s8 => (KSTR_post (KSTR_let (KXE_3 (pB := pI) wR wI (kX (L_aload_n (r := (some sv)) 2 X dL_isClock_21 rfl rfl)) (kX (L_iload_n (x := zone_) 3 X dL_isClock_22 rfl rfl)) (kX (L_iload (x := s8.2) 0 X dL_isClock_23 rfl)) (fun v0 v1 v2 st L a b hd hc hs h => by obtain ⟨rfl, h1⟩ := lgo_of h; exact k_callH (st := st) X htr (E_L_local sv v1 v2) lkh_local stl_local ml_L_153 rfl (by rw [hR]; exact ⟨Nat.le_of_ble_eq_true rfl, Nat.le_of_ble_eq_true rfl⟩) (Nat.le_trans hd (by decide)) ⟨hc, hs⟩ dL_isClock_25 h1)) (kS (S_istore (ev := fun local_16 => [(5, .int local_16), (4, .int s8.2), (3, .int s8.1), (0, va_rf (some sv)), (1, .int zone_), (2, .int from_)]) X dL_isClock_28 (by rw [hN]; decide) (fun _ => rfl))) fun local_16 =>
  (KSTR_let (KXE_3 (pB := pI) wR wI (kX (L_aload_n (r := (some sv)) 3 X dL_isClock_30 rfl rfl)) (kX (L_iload_n (x := zone_) 4 X dL_isClock_31 rfl rfl)) (kX (L_iload (x := local_16) 0 X dL_isClock_32 rfl)) (fun v0 v1 v2 st L a b hd hc hs h => by obtain ⟨rfl, h1⟩ := lgo_of h; exact k_callH (st := st) X htr (E_L_common sv v1 v2) lkh_common stl_common ml_L_158 rfl (by rw [hR]; exact ⟨Nat.le_of_ble_eq_true rfl, Nat.le_of_ble_eq_true rfl⟩) (Nat.le_trans hd (by decide)) ⟨hc, hs⟩ dL_isClock_34 h1)) (kS (S_istore (ev := fun back_20 => [(6, .int back_20), (5, .int local_16), (4, .int s8.2), (3, .int s8.1), (0, va_rf (some sv)), (1, .int zone_), (2, .int from_)]) X dL_isClock_37 (by rw [hN]; decide) (fun _ => rfl))) fun back_20 =>
  (KSTR_if (KCE_or (KCE_or (KCE_or (KCE_1 (KXE_2 wI (kX (L_iload (x := local_16) 1 X dL_isClock_39 rfl)) (kX (L_iload_n (x := s8.1) 3 X dL_isClock_41 rfl rfl)) (k2 (O_isub X dL_isClock_42))) (kF1 (Z_lt_T X dL_isClock_43 (by decide)))) (KCE_2 wI (KXE_2 wI (kX (L_iload (x := local_16) 1 X dL_isClock_46 rfl)) (kX (L_iload_n (x := s8.1) 3 X dL_isClock_48 rfl rfl)) (k2 (O_isub X dL_isClock_49))) (kX (L_iconst (v := I 2) X dL_isClock_50 (by decide))) (kF2 (C_gt_T X dL_isClock_51 (by decide))))) (KCE_and (KCE_2 wI (kX (L_iload (x := back_20) 0 X dL_isClock_54 rfl)) (kX (L_iload (x := s8.2) 2 X dL_isClock_56 rfl)) (kF2 (C_ne_F X dL_isClock_58 (by decide)))) (KCE_or (KCE_2 wI (kX (L_iload (x := back_20) 0 X dL_isClock_61 rfl)) (KXE_2 wI (kX (L_iload (x := s8.2) 2 X dL_isClock_63 rfl)) (kX (L_iconst (v := I 1) X dL_isClock_65 (by decide))) (k2 (O_isub X dL_isClock_66))) (kF2 (C_ne_T X dL_isClock_67 (by decide)))) (KCE_2 wI (kX (L_iload (x := local_16) 1 X dL_isClock_70 rfl)) (kX (L_iload_n (x := s8.1) 3 X dL_isClock_72 rfl rfl)) (kF2 (C_ne_T X dL_isClock_73 (by decide))))))) (KCE_and (KCE_1 (KXE_2 wI (kX (L_iload (x := local_16) 1 X dL_isClock_76 rfl)) (kX (L_iload_n (x := s8.1) 3 X dL_isClock_78 rfl rfl)) (k2 (O_isub X dL_isClock_79))) (kF1 (Z_eq_F X dL_isClock_80 (by decide)))) (KCE_2 wI (kX (L_iload (x := back_20) 0 X dL_isClock_83 rfl)) (KXE_2 wI (kX (L_iload (x := s8.2) 2 X dL_isClock_85 rfl)) (kX (L_iconst (v := I 1) X dL_isClock_87 (by decide))) (k2 (O_isub X dL_isClock_88))) (kF2 (C_ne_F X dL_isClock_89 (by decide))))))
  (kretZ X C hr dL_isClock_93 (kX (L_iconst (v := I 0) X dL_isClock_92 (by decide))))
  (KSTR_if (KCE_and (KCE_2 wI (KXE_2 wI (kX (L_iload (x := local_16) 1 X dL_isClock_94 rfl)) (kX (L_iload_n (x := s8.1) 3 X dL_isClock_96 rfl rfl)) (k2 (O_isub X dL_isClock_97))) (kX (L_iconst (v := I 2) X dL_isClock_98 (by decide))) (kF2 (C_eq_F X dL_isClock_99 (by decide)))) (KCE_2 wI (KXE_3 (pB := pI) wR wI (kX (L_aload_n (r := (some sv)) 4 X dL_isClock_102 rfl rfl)) (kX (L_iload_n (x := zone_) 5 X dL_isClock_103 rfl rfl)) (KXE_2 wI (kX (L_iload_n (x := s8.1) 3 X dL_isClock_104 rfl rfl)) (kX (L_iconst (v := I 1) X dL_isClock_105 (by decide))) (k2 (O_iadd X dL_isClock_106))) (fun v0 v1 v2 st L a b hd hc hs h => by obtain ⟨rfl, h1⟩ := lgo_of h; exact k_callH (st := st) X htr (E_L_common sv v1 v2) lkh_common stl_common ml_L_158 rfl (by rw [hR]; exact ⟨Nat.le_of_ble_eq_true rfl, Nat.le_of_ble_eq_true rfl⟩) (Nat.le_trans hd (by decide)) ⟨hc, hs⟩ dL_isClock_107 h1)) (kX (L_iload (x := s8.2) 2 X dL_isClock_110 rfl)) (kF2 (C_ne_F X dL_isClock_112 (by decide)))))
  (kretZ X C hr dL_isClock_116 (kX (L_iconst (v := I 0) X dL_isClock_115 (by decide))))
  (KSTR_of (KST_let (kX (L_iload (x := local_16) 1 X dL_isClock_117 rfl)) (kS (S_istore_n (ev := fun last_61 => [(3, .int last_61), (6, .int back_20), (5, .int local_16), (4, .int s8.2), (0, va_rf (some sv)), (1, .int zone_), (2, .int from_)]) X dL_isClock_119 rfl (by rw [hN]; decide) (fun _ => rfl))) fun last_61 =>
  (KST_pre (env' := [(4, .int (s8.2 + 1)), (3, .int last_61), (6, .int back_20), (5, .int local_16), (0, va_rf (some sv)), (1, .int zone_), (2, .int from_)]) (kP (S_iinc 3 X dL_isClock_120 rfl rfl (by rw [hN]; decide) rfl))
  (KST_done (upd := (fun (s : Int32 × Int32) => [(4, .int s.2), (3, .int s.1), (0, va_rf (some sv)), (1, .int zone_), (2, .int from_)])) (s := (last_61, (s8.2 + 1))) [0, 1, 4, 5, 6] rfl)))))))) fun _ L a b h => kJ (S_goto X dL_isClock_123 (by decide)) [] L a b h))) fun s67 =>
  (kretZ X C hr dL_isClock_191 (KXE_b2i (KCE_and (KCE_and (KCE_and (KCE_and (KCE_2 wI (KXE_3 (pB := pI) wR wI (kX (L_aload_n (r := (some sv)) 2 X dL_isClock_126 rfl rfl)) (kX (L_iconst (v := I 3) X dL_isClock_127 (by decide))) (kX (L_iconst (v := I 0) X dL_isClock_128 (by decide))) (fun v0 v1 v2 st L a b hd hc hs h => by obtain ⟨rfl, h1⟩ := lgo_of h; exact k_callH (st := st) X htr (E_L_local sv v1 v2) lkh_local stl_local ml_L_153 rfl (by rw [hR]; exact ⟨Nat.le_of_ble_eq_true rfl, Nat.le_of_ble_eq_true rfl⟩) (Nat.le_trans hd (by decide)) ⟨hc, hs⟩ dL_isClock_129 h1)) (kX (L_ldc (v := I (-1000001)) X dL_isClock_132 kd_L_18)) (kF2 (C_eq_F X dL_isClock_134 (by decide)))) (KCE_2 wI (KXE_3 (pB := pI) wR wI (kX (L_aload_n (r := (some sv)) 2 X dL_isClock_137 rfl rfl)) (kX (L_iload_n (x := zone_) 3 X dL_isClock_138 rfl rfl)) (kX (L_sipush (v := I 2001) X dL_isClock_139 (by decide))) (fun v0 v1 v2 st L a b hd hc hs h => by obtain ⟨rfl, h1⟩ := lgo_of h; exact k_callH (st := st) X htr (E_L_local sv v1 v2) lkh_local stl_local ml_L_153 rfl (by rw [hR]; exact ⟨Nat.le_of_ble_eq_true rfl, Nat.le_of_ble_eq_true rfl⟩) (Nat.le_trans hd (by decide)) ⟨hc, hs⟩ dL_isClock_142 h1)) (kX (L_ldc (v := I (-1000002)) X dL_isClock_145 kd_L_21)) (kF2 (C_eq_F X dL_isClock_147 (by decide))))) (KCE_2 wI (KXE_3 (pB := pI) wR wI (kX (L_aload_n (r := (some sv)) 2 X dL_isClock_150 rfl rfl)) (kX (L_iload_n (x := zone_) 3 X dL_isClock_151 rfl rfl)) (kX (L_bipush (v := I (-101)) X dL_isClock_152 (by decide))) (fun v0 v1 v2 st L a b hd hc hs h => by obtain ⟨rfl, h1⟩ := lgo_of h; exact k_callH (st := st) X htr (E_L_local sv v1 v2) lkh_local stl_local ml_L_153 rfl (by rw [hR]; exact ⟨Nat.le_of_ble_eq_true rfl, Nat.le_of_ble_eq_true rfl⟩) (Nat.le_trans hd (by decide)) ⟨hc, hs⟩ dL_isClock_154 h1)) (kX (L_ldc (v := I (-1000002)) X dL_isClock_157 kd_L_21)) (kF2 (C_eq_F X dL_isClock_159 (by decide))))) (KCE_2 wI (KXE_3 (pB := pI) wR wI (kX (L_aload_n (r := (some sv)) 2 X dL_isClock_162 rfl rfl)) (kX (L_iconst (v := I (-1)) X dL_isClock_163 (by decide))) (kX (L_iconst (v := I 0) X dL_isClock_164 (by decide))) (fun v0 v1 v2 st L a b hd hc hs h => by obtain ⟨rfl, h1⟩ := lgo_of h; exact k_callH (st := st) X htr (E_L_common sv v1 v2) lkh_common stl_common ml_L_158 rfl (by rw [hR]; exact ⟨Nat.le_of_ble_eq_true rfl, Nat.le_of_ble_eq_true rfl⟩) (Nat.le_trans hd (by decide)) ⟨hc, hs⟩ dL_isClock_165 h1)) (kX (L_ldc (v := I (-1000001)) X dL_isClock_168 kd_L_18)) (kF2 (C_eq_F X dL_isClock_170 (by decide))))) (KCE_2 wI (KXE_3 (pB := pI) wR wI (kX (L_aload_n (r := (some sv)) 2 X dL_isClock_173 rfl rfl)) (kX (L_iload_n (x := zone_) 3 X dL_isClock_174 rfl rfl)) (kX (L_sipush (v := I 2001) X dL_isClock_175 (by decide))) (fun v0 v1 v2 st L a b hd hc hs h => by obtain ⟨rfl, h1⟩ := lgo_of h; exact k_callH (st := st) X htr (E_L_common sv v1 v2) lkh_common stl_common ml_L_158 rfl (by rw [hR]; exact ⟨Nat.le_of_ble_eq_true rfl, Nat.le_of_ble_eq_true rfl⟩) (Nat.le_trans hd (by decide)) ⟨hc, hs⟩ dL_isClock_178 h1)) (kX (L_ldc (v := I (-1000002)) X dL_isClock_181 kd_L_21)) (kF2 (C_eq_F X dL_isClock_183 (by decide))))) (kB (S_b1 X dL_isClock_186 dL_isClock_187 (by decide))) (kB (S_b0 X dL_isClock_190))))))) h0 (by rw [hR]; exact Nat.le_of_ble_eq_true rfl) (by rw [hR]; exact Nat.le_of_ble_eq_true rfl)
theorem dL_isHeld_0 : decode cL_isHeld 0 = .ok (.aload_n 1, 1) := by decide +kernel
theorem dL_isHeld_1 : decode cL_isHeld 1 = .ok (.iload_n 3, 1) := by decide +kernel
theorem dL_isHeld_2 : decode cL_isHeld 2 = .ok (.iaload, 1) := by decide +kernel
theorem dL_isHeld_3 : decode cL_isHeld 3 = .ok (.bipush 8, 2) := by decide +kernel
theorem dL_isHeld_5 : decode cL_isHeld 5 = .ok (.irem, 1) := by decide +kernel
theorem dL_isHeld_6 : decode cL_isHeld 6 = .ok (.iload_n 2, 1) := by decide +kernel
theorem dL_isHeld_7 : decode cL_isHeld 7 = .ok (.if_icmp .ne 7, 3) := by decide +kernel
theorem dL_isHeld_10 : decode cL_isHeld 10 = .ok (.iconst 1, 1) := by decide +kernel
theorem dL_isHeld_11 : decode cL_isHeld 11 = .ok (.goto 4, 3) := by decide +kernel
theorem dL_isHeld_14 : decode cL_isHeld 14 = .ok (.iconst 0, 1) := by decide +kernel
theorem dL_isHeld_15 : decode cL_isHeld 15 = .ok (.istore 4, 2) := by decide +kernel
theorem dL_isHeld_17 : decode cL_isHeld 17 = .ok (.aload_n 1, 1) := by decide +kernel
theorem dL_isHeld_18 : decode cL_isHeld 18 = .ok (.iload_n 3, 1) := by decide +kernel
theorem dL_isHeld_19 : decode cL_isHeld 19 = .ok (.iaload, 1) := by decide +kernel
theorem dL_isHeld_20 : decode cL_isHeld 20 = .ok (.bipush 8, 2) := by decide +kernel
theorem dL_isHeld_22 : decode cL_isHeld 22 = .ok (.idiv, 1) := by decide +kernel
theorem dL_isHeld_23 : decode cL_isHeld 23 = .ok (.sipush 512, 3) := by decide +kernel
theorem dL_isHeld_26 : decode cL_isHeld 26 = .ok (.irem, 1) := by decide +kernel
theorem dL_isHeld_27 : decode cL_isHeld 27 = .ok (.istore 5, 2) := by decide +kernel
theorem dL_isHeld_29 : decode cL_isHeld 29 = .ok (.aload_n 0, 1) := by decide +kernel
theorem dL_isHeld_30 : decode cL_isHeld 30 = .ok (.iload_n 2, 1) := by decide +kernel
theorem dL_isHeld_31 : decode cL_isHeld 31 = .ok (.iload_n 3, 1) := by decide +kernel
theorem dL_isHeld_32 : decode cL_isHeld 32 = .ok (.invokestatic 160, 3) := by decide +kernel
theorem dL_isHeld_35 : decode cL_isHeld 35 = .ok (.istore 6, 2) := by decide +kernel
theorem dL_isHeld_37 : decode cL_isHeld 37 = .ok (.aload_n 0, 1) := by decide +kernel
theorem dL_isHeld_38 : decode cL_isHeld 38 = .ok (.iload_n 2, 1) := by decide +kernel
theorem dL_isHeld_39 : decode cL_isHeld 39 = .ok (.iload_n 3, 1) := by decide +kernel
theorem dL_isHeld_40 : decode cL_isHeld 40 = .ok (.invokestatic 162, 3) := by decide +kernel
theorem dL_isHeld_43 : decode cL_isHeld 43 = .ok (.istore 7, 2) := by decide +kernel
theorem dL_isHeld_45 : decode cL_isHeld 45 = .ok (.aload_n 0, 1) := by decide +kernel
theorem dL_isHeld_46 : decode cL_isHeld 46 = .ok (.iload_n 2, 1) := by decide +kernel
theorem dL_isHeld_47 : decode cL_isHeld 47 = .ok (.iload_n 3, 1) := by decide +kernel
theorem dL_isHeld_48 : decode cL_isHeld 48 = .ok (.invokestatic 164, 3) := by decide +kernel
theorem dL_isHeld_51 : decode cL_isHeld 51 = .ok (.istore 8, 2) := by decide +kernel
theorem dL_isHeld_53 : decode cL_isHeld 53 = .ok (.iload 4, 2) := by decide +kernel
theorem dL_isHeld_55 : decode cL_isHeld 55 = .ok (.ifCond .eq 37, 3) := by decide +kernel
theorem dL_isHeld_58 : decode cL_isHeld 58 = .ok (.iload 6, 2) := by decide +kernel
theorem dL_isHeld_60 : decode cL_isHeld 60 = .ok (.iload 5, 2) := by decide +kernel
theorem dL_isHeld_62 : decode cL_isHeld 62 = .ok (.if_icmp .ne 26, 3) := by decide +kernel
theorem dL_isHeld_65 : decode cL_isHeld 65 = .ok (.iload 7, 2) := by decide +kernel
theorem dL_isHeld_67 : decode cL_isHeld 67 = .ok (.aload_n 1, 1) := by decide +kernel
theorem dL_isHeld_68 : decode cL_isHeld 68 = .ok (.iload_n 3, 1) := by decide +kernel
theorem dL_isHeld_69 : decode cL_isHeld 69 = .ok (.iaload, 1) := by decide +kernel
theorem dL_isHeld_70 : decode cL_isHeld 70 = .ok (.sipush 4095, 3) := by decide +kernel
theorem dL_isHeld_73 : decode cL_isHeld 73 = .ok (.if_icmp .le 7, 3) := by decide +kernel
theorem dL_isHeld_76 : decode cL_isHeld 76 = .ok (.iconst 0, 1) := by decide +kernel
theorem dL_isHeld_77 : decode cL_isHeld 77 = .ok (.goto 4, 3) := by decide +kernel
theorem dL_isHeld_80 : decode cL_isHeld 80 = .ok (.iconst 1, 1) := by decide +kernel
theorem dL_isHeld_81 : decode cL_isHeld 81 = .ok (.if_icmp .ne 7, 3) := by decide +kernel
theorem dL_isHeld_84 : decode cL_isHeld 84 = .ok (.iconst 1, 1) := by decide +kernel
theorem dL_isHeld_85 : decode cL_isHeld 85 = .ok (.goto 35, 3) := by decide +kernel
theorem dL_isHeld_88 : decode cL_isHeld 88 = .ok (.iconst 0, 1) := by decide +kernel
theorem dL_isHeld_89 : decode cL_isHeld 89 = .ok (.goto 31, 3) := by decide +kernel
theorem dL_isHeld_92 : decode cL_isHeld 92 = .ok (.iload 6, 2) := by decide +kernel
theorem dL_isHeld_94 : decode cL_isHeld 94 = .ok (.iconst (-1), 1) := by decide +kernel
theorem dL_isHeld_95 : decode cL_isHeld 95 = .ok (.if_icmp .lt 24, 3) := by decide +kernel
theorem dL_isHeld_98 : decode cL_isHeld 98 = .ok (.iload 6, 2) := by decide +kernel
theorem dL_isHeld_100 : decode cL_isHeld 100 = .ok (.iload 5, 2) := by decide +kernel
theorem dL_isHeld_102 : decode cL_isHeld 102 = .ok (.if_icmp .gt 17, 3) := by decide +kernel
theorem dL_isHeld_105 : decode cL_isHeld 105 = .ok (.iload 6, 2) := by decide +kernel
theorem dL_isHeld_107 : decode cL_isHeld 107 = .ok (.ifCond .ge 8, 3) := by decide +kernel
theorem dL_isHeld_110 : decode cL_isHeld 110 = .ok (.iload 7, 2) := by decide +kernel
theorem dL_isHeld_112 : decode cL_isHeld 112 = .ok (.ifCond .ne 7, 3) := by decide +kernel
theorem dL_isHeld_115 : decode cL_isHeld 115 = .ok (.iconst 1, 1) := by decide +kernel
theorem dL_isHeld_116 : decode cL_isHeld 116 = .ok (.goto 4, 3) := by decide +kernel
theorem dL_isHeld_119 : decode cL_isHeld 119 = .ok (.iconst 0, 1) := by decide +kernel
theorem dL_isHeld_120 : decode cL_isHeld 120 = .ok (.istore 9, 2) := by decide +kernel
theorem dL_isHeld_122 : decode cL_isHeld 122 = .ok (.iload 9, 2) := by decide +kernel
theorem dL_isHeld_124 : decode cL_isHeld 124 = .ok (.ifCond .eq 55, 3) := by decide +kernel
theorem dL_isHeld_127 : decode cL_isHeld 127 = .ok (.iload 7, 2) := by decide +kernel
theorem dL_isHeld_129 : decode cL_isHeld 129 = .ok (.iconst 1, 1) := by decide +kernel
theorem dL_isHeld_130 : decode cL_isHeld 130 = .ok (.if_icmp .eq 8, 3) := by decide +kernel
theorem dL_isHeld_133 : decode cL_isHeld 133 = .ok (.iload 8, 2) := by decide +kernel
theorem dL_isHeld_135 : decode cL_isHeld 135 = .ok (.ifCond .ne 44, 3) := by decide +kernel
theorem dL_isHeld_138 : decode cL_isHeld 138 = .ok (.iload 8, 2) := by decide +kernel
theorem dL_isHeld_140 : decode cL_isHeld 140 = .ok (.ifCond .lt 39, 3) := by decide +kernel
theorem dL_isHeld_143 : decode cL_isHeld 143 = .ok (.iload 8, 2) := by decide +kernel
theorem dL_isHeld_145 : decode cL_isHeld 145 = .ok (.bipush 60, 2) := by decide +kernel
theorem dL_isHeld_147 : decode cL_isHeld 147 = .ok (.if_icmp .gt 32, 3) := by decide +kernel
theorem dL_isHeld_150 : decode cL_isHeld 150 = .ok (.aload_n 0, 1) := by decide +kernel
theorem dL_isHeld_151 : decode cL_isHeld 151 = .ok (.iload_n 2, 1) := by decide +kernel
theorem dL_isHeld_152 : decode cL_isHeld 152 = .ok (.iload_n 3, 1) := by decide +kernel
theorem dL_isHeld_153 : decode cL_isHeld 153 = .ok (.iload 8, 2) := by decide +kernel
theorem dL_isHeld_155 : decode cL_isHeld 155 = .ok (.invokestatic 166, 3) := by decide +kernel
theorem dL_isHeld_158 : decode cL_isHeld 158 = .ok (.ldc 18, 2) := by decide +kernel
theorem dL_isHeld_160 : decode cL_isHeld 160 = .ok (.if_icmp .ne 19, 3) := by decide +kernel
theorem dL_isHeld_163 : decode cL_isHeld 163 = .ok (.aload_n 0, 1) := by decide +kernel
theorem dL_isHeld_164 : decode cL_isHeld 164 = .ok (.iload_n 2, 1) := by decide +kernel
theorem dL_isHeld_165 : decode cL_isHeld 165 = .ok (.iload_n 3, 1) := by decide +kernel
theorem dL_isHeld_166 : decode cL_isHeld 166 = .ok (.iconst (-1), 1) := by decide +kernel
theorem dL_isHeld_167 : decode cL_isHeld 167 = .ok (.invokestatic 166, 3) := by decide +kernel
theorem dL_isHeld_170 : decode cL_isHeld 170 = .ok (.ldc 18, 2) := by decide +kernel
theorem dL_isHeld_172 : decode cL_isHeld 172 = .ok (.if_icmp .ne 7, 3) := by decide +kernel
theorem dL_isHeld_175 : decode cL_isHeld 175 = .ok (.iconst 1, 1) := by decide +kernel
theorem dL_isHeld_176 : decode cL_isHeld 176 = .ok (.goto 4, 3) := by decide +kernel
theorem dL_isHeld_179 : decode cL_isHeld 179 = .ok (.iconst 0, 1) := by decide +kernel
theorem dL_isHeld_180 : decode cL_isHeld 180 = .ok (.istore 9, 2) := by decide +kernel
theorem dL_isHeld_182 : decode cL_isHeld 182 = .ok (.iconst (-1), 1) := by decide +kernel
theorem dL_isHeld_183 : decode cL_isHeld 183 = .ok (.istore 10, 2) := by decide +kernel
theorem dL_isHeld_185 : decode cL_isHeld 185 = .ok (.iconst 0, 1) := by decide +kernel
theorem dL_isHeld_186 : decode cL_isHeld 186 = .ok (.istore 11, 2) := by decide +kernel
theorem dL_isHeld_188 : decode cL_isHeld 188 = .ok (.iload 11, 2) := by decide +kernel
theorem dL_isHeld_190 : decode cL_isHeld 190 = .ok (.iload 8, 2) := by decide +kernel
theorem dL_isHeld_192 : decode cL_isHeld 192 = .ok (.if_icmp .ge 141, 3) := by decide +kernel
theorem dL_isHeld_195 : decode cL_isHeld 195 = .ok (.iload 9, 2) := by decide +kernel
theorem dL_isHeld_197 : decode cL_isHeld 197 = .ok (.ifCond .eq 136, 3) := by decide +kernel
theorem dL_isHeld_200 : decode cL_isHeld 200 = .ok (.aload_n 0, 1) := by decide +kernel
theorem dL_isHeld_201 : decode cL_isHeld 201 = .ok (.iload_n 2, 1) := by decide +kernel
theorem dL_isHeld_202 : decode cL_isHeld 202 = .ok (.iload_n 3, 1) := by decide +kernel
theorem dL_isHeld_203 : decode cL_isHeld 203 = .ok (.iload 11, 2) := by decide +kernel
theorem dL_isHeld_205 : decode cL_isHeld 205 = .ok (.invokestatic 166, 3) := by decide +kernel
theorem dL_isHeld_208 : decode cL_isHeld 208 = .ok (.istore 12, 2) := by decide +kernel
theorem dL_isHeld_210 : decode cL_isHeld 210 = .ok (.aload_n 0, 1) := by decide +kernel
theorem dL_isHeld_211 : decode cL_isHeld 211 = .ok (.iload_n 2, 1) := by decide +kernel
theorem dL_isHeld_212 : decode cL_isHeld 212 = .ok (.iload_n 3, 1) := by decide +kernel
theorem dL_isHeld_213 : decode cL_isHeld 213 = .ok (.iload 12, 2) := by decide +kernel
theorem dL_isHeld_215 : decode cL_isHeld 215 = .ok (.invokestatic 169, 3) := by decide +kernel
theorem dL_isHeld_218 : decode cL_isHeld 218 = .ok (.istore 13, 2) := by decide +kernel
theorem dL_isHeld_220 : decode cL_isHeld 220 = .ok (.aload_n 0, 1) := by decide +kernel
theorem dL_isHeld_221 : decode cL_isHeld 221 = .ok (.iload_n 2, 1) := by decide +kernel
theorem dL_isHeld_222 : decode cL_isHeld 222 = .ok (.iload_n 3, 1) := by decide +kernel
theorem dL_isHeld_223 : decode cL_isHeld 223 = .ok (.iload 12, 2) := by decide +kernel
theorem dL_isHeld_225 : decode cL_isHeld 225 = .ok (.invokestatic 171, 3) := by decide +kernel
theorem dL_isHeld_228 : decode cL_isHeld 228 = .ok (.istore 14, 2) := by decide +kernel
theorem dL_isHeld_230 : decode cL_isHeld 230 = .ok (.aload_n 0, 1) := by decide +kernel
theorem dL_isHeld_231 : decode cL_isHeld 231 = .ok (.iload_n 2, 1) := by decide +kernel
theorem dL_isHeld_232 : decode cL_isHeld 232 = .ok (.iload 13, 2) := by decide +kernel
theorem dL_isHeld_234 : decode cL_isHeld 234 = .ok (.invokestatic 173, 3) := by decide +kernel
theorem dL_isHeld_237 : decode cL_isHeld 237 = .ok (.istore 15, 2) := by decide +kernel
theorem dL_isHeld_239 : decode cL_isHeld 239 = .ok (.iload 12, 2) := by decide +kernel
theorem dL_isHeld_241 : decode cL_isHeld 241 = .ok (.iload 10, 2) := by decide +kernel
theorem dL_isHeld_243 : decode cL_isHeld 243 = .ok (.if_icmp .le 77, 3) := by decide +kernel
theorem dL_isHeld_246 : decode cL_isHeld 246 = .ok (.iload 12, 2) := by decide +kernel
theorem dL_isHeld_248 : decode cL_isHeld 248 = .ok (.bipush 60, 2) := by decide +kernel
theorem dL_isHeld_250 : decode cL_isHeld 250 = .ok (.if_icmp .ge 70, 3) := by decide +kernel
theorem dL_isHeld_253 : decode cL_isHeld 253 = .ok (.iload 13, 2) := by decide +kernel
theorem dL_isHeld_255 : decode cL_isHeld 255 = .ok (.bipush (-20), 2) := by decide +kernel
theorem dL_isHeld_257 : decode cL_isHeld 257 = .ok (.if_icmp .lt 63, 3) := by decide +kernel
theorem dL_isHeld_260 : decode cL_isHeld 260 = .ok (.iload 13, 2) := by decide +kernel
theorem dL_isHeld_262 : decode cL_isHeld 262 = .ok (.sipush 1500, 3) := by decide +kernel
theorem dL_isHeld_265 : decode cL_isHeld 265 = .ok (.if_icmp .ge 55, 3) := by decide +kernel
theorem dL_isHeld_268 : decode cL_isHeld 268 = .ok (.iload 14, 2) := by decide +kernel
theorem dL_isHeld_270 : decode cL_isHeld 270 = .ok (.ifCond .lt 50, 3) := by decide +kernel
theorem dL_isHeld_273 : decode cL_isHeld 273 = .ok (.iload 14, 2) := by decide +kernel
theorem dL_isHeld_275 : decode cL_isHeld 275 = .ok (.iconst 5, 1) := by decide +kernel
theorem dL_isHeld_276 : decode cL_isHeld 276 = .ok (.if_icmp .ge 44, 3) := by decide +kernel
theorem dL_isHeld_279 : decode cL_isHeld 279 = .ok (.iload 4, 2) := by decide +kernel
theorem dL_isHeld_281 : decode cL_isHeld 281 = .ok (.ifCond .eq 9, 3) := by decide +kernel
theorem dL_isHeld_284 : decode cL_isHeld 284 = .ok (.iload 14, 2) := by decide +kernel
theorem dL_isHeld_286 : decode cL_isHeld 286 = .ok (.iconst 1, 1) := by decide +kernel
theorem dL_isHeld_287 : decode cL_isHeld 287 = .ok (.if_icmp .ne 33, 3) := by decide +kernel
theorem dL_isHeld_290 : decode cL_isHeld 290 = .ok (.iload 15, 2) := by decide +kernel
theorem dL_isHeld_292 : decode cL_isHeld 292 = .ok (.iload 14, 2) := by decide +kernel
theorem dL_isHeld_294 : decode cL_isHeld 294 = .ok (.iconst 1, 1) := by decide +kernel
theorem dL_isHeld_295 : decode cL_isHeld 295 = .ok (.if_icmp .ne 7, 3) := by decide +kernel
theorem dL_isHeld_298 : decode cL_isHeld 298 = .ok (.iconst 2, 1) := by decide +kernel
theorem dL_isHeld_299 : decode cL_isHeld 299 = .ok (.goto 14, 3) := by decide +kernel
theorem dL_isHeld_302 : decode cL_isHeld 302 = .ok (.iload 14, 2) := by decide +kernel
theorem dL_isHeld_304 : decode cL_isHeld 304 = .ok (.iconst 2, 1) := by decide +kernel
theorem dL_isHeld_305 : decode cL_isHeld 305 = .ok (.if_icmp .ne 7, 3) := by decide +kernel
theorem dL_isHeld_308 : decode cL_isHeld 308 = .ok (.iconst 1, 1) := by decide +kernel
theorem dL_isHeld_309 : decode cL_isHeld 309 = .ok (.goto 4, 3) := by decide +kernel
theorem dL_isHeld_312 : decode cL_isHeld 312 = .ok (.iconst 0, 1) := by decide +kernel
theorem dL_isHeld_313 : decode cL_isHeld 313 = .ok (.if_icmp .lt 7, 3) := by decide +kernel
theorem dL_isHeld_316 : decode cL_isHeld 316 = .ok (.iconst 1, 1) := by decide +kernel
theorem dL_isHeld_317 : decode cL_isHeld 317 = .ok (.goto 4, 3) := by decide +kernel
theorem dL_isHeld_320 : decode cL_isHeld 320 = .ok (.iconst 0, 1) := by decide +kernel
theorem dL_isHeld_321 : decode cL_isHeld 321 = .ok (.istore 9, 2) := by decide +kernel
theorem dL_isHeld_323 : decode cL_isHeld 323 = .ok (.iload 12, 2) := by decide +kernel
theorem dL_isHeld_325 : decode cL_isHeld 325 = .ok (.istore 10, 2) := by decide +kernel
theorem dL_isHeld_327 : decode cL_isHeld 327 = .ok (.iinc 11 1, 3) := by decide +kernel
theorem dL_isHeld_330 : decode cL_isHeld 330 = .ok (.goto (-142), 3) := by decide +kernel
theorem dL_isHeld_333 : decode cL_isHeld 333 = .ok (.iload 9, 2) := by decide +kernel
theorem dL_isHeld_335 : decode cL_isHeld 335 = .ok (.ifCond .eq 59, 3) := by decide +kernel
theorem dL_isHeld_338 : decode cL_isHeld 338 = .ok (.aload_n 0, 1) := by decide +kernel
theorem dL_isHeld_339 : decode cL_isHeld 339 = .ok (.iload_n 2, 1) := by decide +kernel
theorem dL_isHeld_340 : decode cL_isHeld 340 = .ok (.iload_n 3, 1) := by decide +kernel
theorem dL_isHeld_341 : decode cL_isHeld 341 = .ok (.bipush 60, 2) := by decide +kernel
theorem dL_isHeld_343 : decode cL_isHeld 343 = .ok (.invokestatic 169, 3) := by decide +kernel
theorem dL_isHeld_346 : decode cL_isHeld 346 = .ok (.ldc 21, 2) := by decide +kernel
theorem dL_isHeld_348 : decode cL_isHeld 348 = .ok (.if_icmp .ne 46, 3) := by decide +kernel
theorem dL_isHeld_351 : decode cL_isHeld 351 = .ok (.aload_n 0, 1) := by decide +kernel
theorem dL_isHeld_352 : decode cL_isHeld 352 = .ok (.iload_n 2, 1) := by decide +kernel
theorem dL_isHeld_353 : decode cL_isHeld 353 = .ok (.iload_n 3, 1) := by decide +kernel
theorem dL_isHeld_354 : decode cL_isHeld 354 = .ok (.iconst (-1), 1) := by decide +kernel
theorem dL_isHeld_355 : decode cL_isHeld 355 = .ok (.invokestatic 171, 3) := by decide +kernel
theorem dL_isHeld_358 : decode cL_isHeld 358 = .ok (.ldc 21, 2) := by decide +kernel
theorem dL_isHeld_360 : decode cL_isHeld 360 = .ok (.if_icmp .ne 34, 3) := by decide +kernel
theorem dL_isHeld_363 : decode cL_isHeld 363 = .ok (.iload 8, 2) := by decide +kernel
theorem dL_isHeld_365 : decode cL_isHeld 365 = .ok (.bipush 60, 2) := by decide +kernel
theorem dL_isHeld_367 : decode cL_isHeld 367 = .ok (.if_icmp .ge 23, 3) := by decide +kernel
theorem dL_isHeld_370 : decode cL_isHeld 370 = .ok (.iload 10, 2) := by decide +kernel
theorem dL_isHeld_372 : decode cL_isHeld 372 = .ok (.bipush 59, 2) := by decide +kernel
theorem dL_isHeld_374 : decode cL_isHeld 374 = .ok (.if_icmp .ge 16, 3) := by decide +kernel
theorem dL_isHeld_377 : decode cL_isHeld 377 = .ok (.aload_n 0, 1) := by decide +kernel
theorem dL_isHeld_378 : decode cL_isHeld 378 = .ok (.iload_n 2, 1) := by decide +kernel
theorem dL_isHeld_379 : decode cL_isHeld 379 = .ok (.iload_n 3, 1) := by decide +kernel
theorem dL_isHeld_380 : decode cL_isHeld 380 = .ok (.bipush 59, 2) := by decide +kernel
theorem dL_isHeld_382 : decode cL_isHeld 382 = .ok (.invokestatic 169, 3) := by decide +kernel
theorem dL_isHeld_385 : decode cL_isHeld 385 = .ok (.ldc 38, 2) := by decide +kernel
theorem dL_isHeld_387 : decode cL_isHeld 387 = .ok (.if_icmp .ne 7, 3) := by decide +kernel
theorem dL_isHeld_390 : decode cL_isHeld 390 = .ok (.iconst 1, 1) := by decide +kernel
theorem dL_isHeld_391 : decode cL_isHeld 391 = .ok (.goto 4, 3) := by decide +kernel
theorem dL_isHeld_394 : decode cL_isHeld 394 = .ok (.iconst 0, 1) := by decide +kernel
theorem dL_isHeld_395 : decode cL_isHeld 395 = .ok (.ireturn, 1) := by decide +kernel
theorem lk_L_isHeld : LK yL_isHeld cL_isHeld 16 (some .boolean) 4 := ⟨qW_at 413 (by decide +kernel) rfl, qW_at 28 (by decide +kernel) rfl, by decide, by decide, by decide +kernel⟩
theorem st_L_isHeld : Cond.static yL_isHeld ∈ qW := qW_at 412 (by decide +kernel) rfl
def F_L_isHeld (sv : Nat) (person_ meeting_ : Int32) : LX Int32 :=
  (lb (lb (lb (lb (lb (lp (some (sv + 20))) fun v1 => lb (lp meeting_) fun v2 => lai sv v1 v2) fun v3 => lb (lp (I 8)) fun v4 => (lrem v3 v4)) fun v5 => lb (lp person_) fun v6 => lp (decide (v5 = v6))) fun v7 => lp (b2i v7)) fun own_8 =>
  (lb (lb (lb (lb (lp (some (sv + 20))) fun v9 => lb (lp meeting_) fun v10 => lai sv v9 v10) fun v11 => lb (lp (I 8)) fun v12 => (ldiv v11 v12)) fun v13 => lb (lp (I 512)) fun v14 => (lrem v13 v14)) fun now_15 =>
  (lb (lb (lp (some sv)) fun v16 => lb (lp person_) fun v17 => lb (lp meeting_) fun v18 => lgo v16 sv (w_sequence v17 v18)) fun sequence_19 =>
  (lb (lb (lp (some sv)) fun v20 => lb (lp person_) fun v21 => lb (lp meeting_) fun v22 => lgo v20 sv (w_isThere v21 v22)) fun there_23 =>
  (lb (lb (lp (some sv)) fun v24 => lb (lp person_) fun v25 => lb (lp meeting_) fun v26 => lgo v24 sv (w_dates v25 v26)) fun dates_27 =>
  (lb (lb (lb (lp own_8) fun v28 => lp (decide (¬ v28 = 0))) fun v50 => if v50 then (lb (lb (lb (lp sequence_19) fun v29 => lb (lp now_15) fun v30 => lp (decide (v29 = v30))) fun v38 => if v38 then (lb (lp there_23) fun v31 => lb (lb (lb (lb (lp (some (sv + 20))) fun v32 => lb (lp meeting_) fun v33 => lai sv v32 v33) fun v34 => lb (lp (I 4095)) fun v35 => lp (decide (v35 < v34))) fun v36 => if v36 then (lp (I 0)) else (lp (I 1))) fun v37 => lp (decide (v31 = v37))) else lp false) fun v39 => lp (b2i v39)) else (lb (lb (lb (lb (lp sequence_19) fun v40 => lb (lp (I (-1))) fun v41 => lp (decide (v41 ≤ v40))) fun v44 => if v44 then (lb (lp sequence_19) fun v42 => lb (lp now_15) fun v43 => lp (decide (v42 ≤ v43))) else lp false) fun v48 => if v48 then (lb (lb (lp sequence_19) fun v45 => lp (decide (0 ≤ v45))) fun v47 => if v47 then lp true else (lb (lp there_23) fun v46 => lp (decide (v46 = 0)))) else lp false) fun v49 => lp (b2i v49))) fun is_51 =>
  (lb (lb (lb (lb (lb (lb (lb (lb (lp is_51) fun v52 => lp (decide (¬ v52 = 0))) fun v57 => if v57 then (lb (lb (lp there_23) fun v53 => lb (lp (I 1)) fun v54 => lp (decide (v53 = v54))) fun v56 => if v56 then lp true else (lb (lp dates_27) fun v55 => lp (decide (v55 = 0)))) else lp false) fun v59 => if v59 then (lb (lp dates_27) fun v58 => lp (decide (0 ≤ v58))) else lp false) fun v62 => if v62 then (lb (lp dates_27) fun v60 => lb (lp (I 60)) fun v61 => lp (decide (v60 ≤ v61))) else lp false) fun v69 => if v69 then (lb (lb (lp (some sv)) fun v63 => lb (lp person_) fun v64 => lb (lp meeting_) fun v65 => lb (lp dates_27) fun v66 => lgo v63 sv (w_dateAt v64 v65 v66)) fun v67 => lb (lp (I (-1000001))) fun v68 => lp (decide (v67 = v68))) else lp false) fun v76 => if v76 then (lb (lb (lp (some sv)) fun v70 => lb (lp person_) fun v71 => lb (lp meeting_) fun v72 => lb (lp (I (-1))) fun v73 => lgo v70 sv (w_dateAt v71 v72 v73)) fun v74 => lb (lp (I (-1000001))) fun v75 => lp (decide (v74 = v75))) else lp false) fun v77 => lp (b2i v77)) fun is_78 =>
  (lb (lp (I (-1))) fun last_79 =>
  (lb (lp (I 0)) fun k_80 =>
  (lb (ll 61 (fun (s81 : Int32 × Int32 × Int32) => (lb (lb (lp s81.2.2) fun v82 => lb (lp dates_27) fun v83 => lp (decide (v82 < v83))) fun v85 => if v85 then (lb (lp s81.1) fun v84 => lp (decide (¬ v84 = 0))) else lp false)) (fun (s81 : Int32 × Int32 × Int32) =>
  (lb (lb (lp (some sv)) fun v86 => lb (lp person_) fun v87 => lb (lp meeting_) fun v88 => lb (lp s81.2.2) fun v89 => lgo v86 sv (w_dateAt v87 v88 v89)) fun day_90 =>
  (lb (lb (lp (some sv)) fun v91 => lb (lp person_) fun v92 => lb (lp meeting_) fun v93 => lb (lp day_90) fun v94 => lgo v91 sv (w_begin v92 v93 v94)) fun begin_95 =>
  (lb (lb (lp (some sv)) fun v96 => lb (lp person_) fun v97 => lb (lp meeting_) fun v98 => lb (lp day_90) fun v99 => lgo v96 sv (w_ownAnswer v97 v98 v99)) fun answer_100 =>
  (lb (lb (lp (some sv)) fun v101 => lb (lp person_) fun v102 => lb (lp begin_95) fun v103 => lgo v101 sv (w_rank v102 v103)) fun rank_104 =>
  (lb (lb (lb (lb (lb (lb (lb (lb (lb (lb (lp day_90) fun v105 => lb (lp s81.2.1) fun v106 => lp (decide (v106 < v105))) fun v109 => if v109 then (lb (lp day_90) fun v107 => lb (lp (I 60)) fun v108 => lp (decide (v107 < v108))) else lp false) fun v112 => if v112 then (lb (lp begin_95) fun v110 => lb (lp (I (-20))) fun v111 => lp (decide (v111 ≤ v110))) else lp false) fun v115 => if v115 then (lb (lp begin_95) fun v113 => lb (lp (I 1500)) fun v114 => lp (decide (v113 < v114))) else lp false) fun v117 => if v117 then (lb (lp answer_100) fun v116 => lp (decide (0 ≤ v116))) else lp false) fun v120 => if v120 then (lb (lp answer_100) fun v118 => lb (lp (I 5)) fun v119 => lp (decide (v118 < v119))) else lp false) fun v126 => if v126 then (lb (lb (lb (lp own_8) fun v121 => lp (decide (¬ v121 = 0))) fun v122 => lp (!v122)) fun v125 => if v125 then lp true else (lb (lp answer_100) fun v123 => lb (lp (I 1)) fun v124 => lp (decide (v123 = v124)))) else lp false) fun v135 => if v135 then (lb (lp rank_104) fun v127 => lb (lb (lb (lp answer_100) fun v128 => lb (lp (I 1)) fun v129 => lp (decide (v128 = v129))) fun v133 => if v133 then (lp (I 2)) else (lb (lb (lp answer_100) fun v130 => lb (lp (I 2)) fun v131 => lp (decide (v130 = v131))) fun v132 => if v132 then (lp (I 1)) else (lp (I 0)))) fun v134 => lp (decide (v134 ≤ v127))) else lp false) fun v136 => lp (b2i v136)) fun is_137 =>
  (lb (lp day_90) fun last_138 =>
  (lp (is_137, last_138, (s81.2.2 + 1)))))))))) (is_78, last_79, k_80)) fun s139 =>
  (lb (lb (lb (lb (lb (lb (lp s139.1) fun v140 => lp (decide (¬ v140 = 0))) fun v147 => if v147 then (lb (lb (lp (some sv)) fun v141 => lb (lp person_) fun v142 => lb (lp meeting_) fun v143 => lb (lp (I 60)) fun v144 => lgo v141 sv (w_begin v142 v143 v144)) fun v145 => lb (lp (I (-1000002))) fun v146 => lp (decide (v145 = v146))) else lp false) fun v154 => if v154 then (lb (lb (lp (some sv)) fun v148 => lb (lp person_) fun v149 => lb (lp meeting_) fun v150 => lb (lp (I (-1))) fun v151 => lgo v148 sv (w_ownAnswer v149 v150 v151)) fun v152 => lb (lp (I (-1000002))) fun v153 => lp (decide (v152 = v153))) else lp false) fun v167 => if v167 then (lb (lb (lb (lp dates_27) fun v155 => lb (lp (I 60)) fun v156 => lp (decide (v155 < v156))) fun v159 => if v159 then (lb (lp s139.2.1) fun v157 => lb (lp (I 59)) fun v158 => lp (decide (v157 < v158))) else lp false) fun v166 => if v166 then (lb (lb (lp (some sv)) fun v160 => lb (lp person_) fun v161 => lb (lp meeting_) fun v162 => lb (lp (I 59)) fun v163 => lgo v160 sv (w_begin v161 v162 v163)) fun v164 => lb (lp (I (-1000003))) fun v165 => lp (decide (v164 = v165))) else (lp true)) else lp false) fun v168 => lp (b2i v168)) lz)))))))))))
set_option maxRecDepth 100000 in
set_option maxHeartbeats 4000000 in
theorem M_L_isHeld (sv : Nat) (person_ meeting_ : Int32) : LM yL_isHeld cL_isHeld 16 (some .boolean) 10 170 817 4902 [.ref sv, .ref (sv + 20), .int person_, .int meeting_] sv (F_L_isHeld sv person_ meeting_) := by
  refine LM_of (env0 := [(0, va_rf (some sv)), (1, va_rf (some (sv + 20))), (2, .int person_), (3, .int meeting_)]) (by decide) (by exact Nat.le_of_ble_eq_true rfl) rfl (fun k R X C hR hN hr L0 h0 => ?_)
  have X : CX k cL_isHeld RL := X
  have htr := C.2.2.2.1
  unfold F_L_isHeld at h0
  exact KSB_go (KSB_let (KXE_b2i (KCE_2 wI (KXE_2 wI (KXE_2 wR (kX (L_aload_n (r := (some (sv + 20))) 1 X dL_isHeld_0 rfl rfl)) (kX (L_iload_n (x := meeting_) 3 X dL_isHeld_1 rfl rfl)) (kai X dL_isHeld_2)) (kX (L_bipush (v := I 8) X dL_isHeld_3 (by decide))) (krem X dL_isHeld_5)) (kX (L_iload_n (x := person_) 2 X dL_isHeld_6 rfl rfl)) (kF2 (C_eq_F X dL_isHeld_7 (by decide)))) (kB (S_b1 X dL_isHeld_10 dL_isHeld_11 (by decide))) (kB (S_b0 X dL_isHeld_14))) (kS (S_istore (ev := fun own_8 => [(4, .int own_8), (0, va_rf (some sv)), (1, va_rf (some (sv + 20))), (2, .int person_), (3, .int meeting_)]) X dL_isHeld_15 (by rw [hN]; decide) (fun _ => rfl))) fun own_8 =>
  (KSB_let (KXE_2 wI (KXE_2 wI (KXE_2 wR (kX (L_aload_n (r := (some (sv + 20))) 2 X dL_isHeld_17 rfl rfl)) (kX (L_iload_n (x := meeting_) 4 X dL_isHeld_18 rfl rfl)) (kai X dL_isHeld_19)) (kX (L_bipush (v := I 8) X dL_isHeld_20 (by decide))) (kdiv X dL_isHeld_22)) (kX (L_sipush (v := I 512) X dL_isHeld_23 (by decide))) (krem X dL_isHeld_26)) (kS (S_istore (ev := fun now_15 => [(5, .int now_15), (4, .int own_8), (0, va_rf (some sv)), (1, va_rf (some (sv + 20))), (2, .int person_), (3, .int meeting_)]) X dL_isHeld_27 (by rw [hN]; decide) (fun _ => rfl))) fun now_15 =>
  (KSB_let (KXE_3 (pB := pI) wR wI (kX (L_aload_n (r := (some sv)) 2 X dL_isHeld_29 rfl rfl)) (kX (L_iload_n (x := person_) 4 X dL_isHeld_30 rfl rfl)) (kX (L_iload_n (x := meeting_) 5 X dL_isHeld_31 rfl rfl)) (fun v0 v1 v2 st L a b hd hc hs h => by obtain ⟨rfl, h1⟩ := lgo_of h; exact k_callH (st := st) X htr (E_L_sequence sv v1 v2) lkh_sequence stl_sequence ml_L_160 rfl (by rw [hR]; exact ⟨Nat.le_of_ble_eq_true rfl, Nat.le_of_ble_eq_true rfl⟩) (Nat.le_trans hd (by decide)) ⟨hc, hs⟩ dL_isHeld_32 h1)) (kS (S_istore (ev := fun sequence_19 => [(6, .int sequence_19), (5, .int now_15), (4, .int own_8), (0, va_rf (some sv)), (1, va_rf (some (sv + 20))), (2, .int person_), (3, .int meeting_)]) X dL_isHeld_35 (by rw [hN]; decide) (fun _ => rfl))) fun sequence_19 =>
  (KSB_let (KXE_3 (pB := pI) wR wI (kX (L_aload_n (r := (some sv)) 3 X dL_isHeld_37 rfl rfl)) (kX (L_iload_n (x := person_) 5 X dL_isHeld_38 rfl rfl)) (kX (L_iload_n (x := meeting_) 6 X dL_isHeld_39 rfl rfl)) (fun v0 v1 v2 st L a b hd hc hs h => by obtain ⟨rfl, h1⟩ := lgo_of h; exact k_callH (st := st) X htr (E_L_isThere sv v1 v2) lkh_isThere stl_isThere ml_L_162 rfl (by rw [hR]; exact ⟨Nat.le_of_ble_eq_true rfl, Nat.le_of_ble_eq_true rfl⟩) (Nat.le_trans hd (by decide)) ⟨hc, hs⟩ dL_isHeld_40 h1)) (kS (S_istore (ev := fun there_23 => [(7, .int there_23), (6, .int sequence_19), (5, .int now_15), (4, .int own_8), (0, va_rf (some sv)), (1, va_rf (some (sv + 20))), (2, .int person_), (3, .int meeting_)]) X dL_isHeld_43 (by rw [hN]; decide) (fun _ => rfl))) fun there_23 =>
  (KSB_let (KXE_3 (pB := pI) wR wI (kX (L_aload_n (r := (some sv)) 4 X dL_isHeld_45 rfl rfl)) (kX (L_iload_n (x := person_) 6 X dL_isHeld_46 rfl rfl)) (kX (L_iload_n (x := meeting_) 7 X dL_isHeld_47 rfl rfl)) (fun v0 v1 v2 st L a b hd hc hs h => by obtain ⟨rfl, h1⟩ := lgo_of h; exact k_callH (st := st) X htr (E_L_dates sv v1 v2) lkh_dates stl_dates ml_L_164 rfl (by rw [hR]; exact ⟨Nat.le_of_ble_eq_true rfl, Nat.le_of_ble_eq_true rfl⟩) (Nat.le_trans hd (by decide)) ⟨hc, hs⟩ dL_isHeld_48 h1)) (kS (S_istore (ev := fun dates_27 => [(8, .int dates_27), (7, .int there_23), (6, .int sequence_19), (5, .int now_15), (4, .int own_8), (0, va_rf (some sv)), (1, va_rf (some (sv + 20))), (2, .int person_), (3, .int meeting_)]) X dL_isHeld_51 (by rw [hN]; decide) (fun _ => rfl))) fun dates_27 =>
  (KSB_let (KXE_tern (KCE_1 (kX (L_iload (x := own_8) 4 X dL_isHeld_53 rfl)) (kF1 (Z_ne_F X dL_isHeld_55 (by decide)))) (KXE_b2i (KCE_and (KCE_2 wI (kX (L_iload (x := sequence_19) 2 X dL_isHeld_58 rfl)) (kX (L_iload (x := now_15) 3 X dL_isHeld_60 rfl)) (kF2 (C_eq_F X dL_isHeld_62 (by decide)))) (KCE_2 wI (kX (L_iload (x := there_23) 1 X dL_isHeld_65 rfl)) (KXE_tern (KCE_2 wI (KXE_2 wR (kX (L_aload_n (r := (some (sv + 20))) 6 X dL_isHeld_67 rfl rfl)) (kX (L_iload_n (x := meeting_) 8 X dL_isHeld_68 rfl rfl)) (kai X dL_isHeld_69)) (kX (L_sipush (v := I 4095) X dL_isHeld_70 (by decide))) (kF2 (C_gt_F X dL_isHeld_73 (by decide)))) (kX (L_iconst (v := I 0) X dL_isHeld_76 (by decide))) (kJ (S_goto X dL_isHeld_77 (by decide))) (kX (L_iconst (v := I 1) X dL_isHeld_80 (by decide)))) (kF2 (C_eq_F X dL_isHeld_81 (by decide))))) (kB (S_b1 X dL_isHeld_84 dL_isHeld_85 (by decide))) (kB (S_b0g X dL_isHeld_88 dL_isHeld_89 (by decide)))) (fun _ _ _ _ h => h) (KXE_b2i (KCE_and (KCE_and (KCE_2 wI (kX (L_iload (x := sequence_19) 2 X dL_isHeld_92 rfl)) (kX (L_iconst (v := I (-1)) X dL_isHeld_94 (by decide))) (kF2 (C_ge_F X dL_isHeld_95 (by decide)))) (KCE_2 wI (kX (L_iload (x := sequence_19) 2 X dL_isHeld_98 rfl)) (kX (L_iload (x := now_15) 3 X dL_isHeld_100 rfl)) (kF2 (C_le_F X dL_isHeld_102 (by decide))))) (KCE_or (KCE_1 (kX (L_iload (x := sequence_19) 2 X dL_isHeld_105 rfl)) (kF1 (Z_ge_T X dL_isHeld_107 (by decide)))) (KCE_1 (kX (L_iload (x := there_23) 1 X dL_isHeld_110 rfl)) (kF1 (Z_eq_F X dL_isHeld_112 (by decide)))))) (kB (S_b1 X dL_isHeld_115 dL_isHeld_116 (by decide))) (kB (S_b0 X dL_isHeld_119)))) (kS (S_istore (ev := fun is_51 => [(9, .int is_51), (8, .int dates_27), (7, .int there_23), (6, .int sequence_19), (5, .int now_15), (4, .int own_8), (0, va_rf (some sv)), (1, va_rf (some (sv + 20))), (2, .int person_), (3, .int meeting_)]) X dL_isHeld_120 (by rw [hN]; decide) (fun _ => rfl))) fun is_51 =>
  (KSB_let (KXE_b2i (KCE_and (KCE_and (KCE_and (KCE_and (KCE_and (KCE_1 (kX (L_iload (x := is_51) 0 X dL_isHeld_122 rfl)) (kF1 (Z_ne_F X dL_isHeld_124 (by decide)))) (KCE_or (KCE_2 wI (kX (L_iload (x := there_23) 2 X dL_isHeld_127 rfl)) (kX (L_iconst (v := I 1) X dL_isHeld_129 (by decide))) (kF2 (C_eq_T X dL_isHeld_130 (by decide)))) (KCE_1 (kX (L_iload (x := dates_27) 1 X dL_isHeld_133 rfl)) (kF1 (Z_eq_F X dL_isHeld_135 (by decide)))))) (KCE_1 (kX (L_iload (x := dates_27) 1 X dL_isHeld_138 rfl)) (kF1 (Z_ge_F X dL_isHeld_140 (by decide))))) (KCE_2 wI (kX (L_iload (x := dates_27) 1 X dL_isHeld_143 rfl)) (kX (L_bipush (v := I 60) X dL_isHeld_145 (by decide))) (kF2 (C_le_F X dL_isHeld_147 (by decide))))) (KCE_2 wI (KXE_4 (pB := pI) wR wI wI (kX (L_aload_n (r := (some sv)) 6 X dL_isHeld_150 rfl rfl)) (kX (L_iload_n (x := person_) 8 X dL_isHeld_151 rfl rfl)) (kX (L_iload_n (x := meeting_) 9 X dL_isHeld_152 rfl rfl)) (kX (L_iload (x := dates_27) 1 X dL_isHeld_153 rfl)) (fun v0 v1 v2 v3 st L a b hd hc hs h => by obtain ⟨rfl, h1⟩ := lgo_of h; exact k_callH (st := st) X htr (E_L_dateAt sv v1 v2 v3) lkh_dateAt stl_dateAt ml_L_166 rfl (by rw [hR]; exact ⟨Nat.le_of_ble_eq_true rfl, Nat.le_of_ble_eq_true rfl⟩) (Nat.le_trans hd (by decide)) ⟨hc, hs⟩ dL_isHeld_155 h1)) (kX (L_ldc (v := I (-1000001)) X dL_isHeld_158 kd_L_18)) (kF2 (C_eq_F X dL_isHeld_160 (by decide))))) (KCE_2 wI (KXE_4 (pB := pI) wR wI wI (kX (L_aload_n (r := (some sv)) 6 X dL_isHeld_163 rfl rfl)) (kX (L_iload_n (x := person_) 8 X dL_isHeld_164 rfl rfl)) (kX (L_iload_n (x := meeting_) 9 X dL_isHeld_165 rfl rfl)) (kX (L_iconst (v := I (-1)) X dL_isHeld_166 (by decide))) (fun v0 v1 v2 v3 st L a b hd hc hs h => by obtain ⟨rfl, h1⟩ := lgo_of h; exact k_callH (st := st) X htr (E_L_dateAt sv v1 v2 v3) lkh_dateAt stl_dateAt ml_L_166 rfl (by rw [hR]; exact ⟨Nat.le_of_ble_eq_true rfl, Nat.le_of_ble_eq_true rfl⟩) (Nat.le_trans hd (by decide)) ⟨hc, hs⟩ dL_isHeld_167 h1)) (kX (L_ldc (v := I (-1000001)) X dL_isHeld_170 kd_L_18)) (kF2 (C_eq_F X dL_isHeld_172 (by decide))))) (kB (S_b1 X dL_isHeld_175 dL_isHeld_176 (by decide))) (kB (S_b0 X dL_isHeld_179))) (kS (S_istore (ev := fun is_78 => [(9, .int is_78), (8, .int dates_27), (7, .int there_23), (6, .int sequence_19), (5, .int now_15), (4, .int own_8), (0, va_rf (some sv)), (1, va_rf (some (sv + 20))), (2, .int person_), (3, .int meeting_)]) X dL_isHeld_180 (by rw [hN]; decide) (fun _ => rfl))) fun is_78 =>
  (KSB_let (kX (L_iconst (v := I (-1)) X dL_isHeld_182 (by decide))) (kS (S_istore (ev := fun last_79 => [(10, .int last_79), (9, .int is_78), (8, .int dates_27), (7, .int there_23), (6, .int sequence_19), (5, .int now_15), (4, .int own_8), (0, va_rf (some sv)), (1, va_rf (some (sv + 20))), (2, .int person_), (3, .int meeting_)]) X dL_isHeld_183 (by rw [hN]; decide) (fun _ => rfl))) fun last_79 =>
  (KSB_let (kX (L_iconst (v := I 0) X dL_isHeld_185 (by decide))) (kS (S_istore (ev := fun k_80 => [(11, .int k_80), (10, .int last_79), (9, .int is_78), (8, .int dates_27), (7, .int there_23), (6, .int sequence_19), (5, .int now_15), (4, .int own_8), (0, va_rf (some sv)), (1, va_rf (some (sv + 20))), (2, .int person_), (3, .int meeting_)]) X dL_isHeld_186 (by rw [hN]; decide) (fun _ => rfl))) fun k_80 =>
  (KSB_seq (KST_loop (σ := Int32 × Int32 × Int32) (upd := (fun (s : Int32 × Int32 × Int32) => [(11, .int s.2.2), (10, .int s.2.1), (9, .int s.1), (8, .int dates_27), (7, .int there_23), (6, .int sequence_19), (5, .int now_15), (4, .int own_8), (0, va_rf (some sv)), (1, va_rf (some (sv + 20))), (2, .int person_), (3, .int meeting_)])) (s0 := (is_78, last_79, k_80)) (n := 61) (fun L a b h => GL_sub [0, 1, 2, 3, 4, 5, 6, 7, 8, 9, 10, 11] rfl h)
  (fun s81 => (KCE_and (KCE_2 wI (kX (L_iload (x := s81.2.2) 0 X dL_isHeld_188 rfl)) (kX (L_iload (x := dates_27) 3 X dL_isHeld_190 rfl)) (kF2 (C_lt_F X dL_isHeld_192 (by decide)))) (KCE_1 (kX (L_iload (x := s81.1) 2 X dL_isHeld_195 rfl)) (kF1 (Z_ne_F X dL_isHeld_197 (by decide))))))
  (fun s81 => (KST_post (KST_let (KXE_4 (pB := pI) wR wI wI (kX (L_aload_n (r := (some sv)) 8 X dL_isHeld_200 rfl rfl)) (kX (L_iload_n (x := person_) 10 X dL_isHeld_201 rfl rfl)) (kX (L_iload_n (x := meeting_) 11 X dL_isHeld_202 rfl rfl)) (kX (L_iload (x := s81.2.2) 0 X dL_isHeld_203 rfl)) (fun v0 v1 v2 v3 st L a b hd hc hs h => by obtain ⟨rfl, h1⟩ := lgo_of h; exact k_callH (st := st) X htr (E_L_dateAt sv v1 v2 v3) lkh_dateAt stl_dateAt ml_L_166 rfl (by rw [hR]; exact ⟨Nat.le_of_ble_eq_true rfl, Nat.le_of_ble_eq_true rfl⟩) (Nat.le_trans hd (by decide)) ⟨hc, hs⟩ dL_isHeld_205 h1)) (kS (S_istore (ev := fun day_90 => [(12, .int day_90), (11, .int s81.2.2), (10, .int s81.2.1), (9, .int s81.1), (8, .int dates_27), (7, .int there_23), (6, .int sequence_19), (5, .int now_15), (4, .int own_8), (0, va_rf (some sv)), (1, va_rf (some (sv + 20))), (2, .int person_), (3, .int meeting_)]) X dL_isHeld_208 (by rw [hN]; decide) (fun _ => rfl))) fun day_90 =>
  (KST_let (KXE_4 (pB := pI) wR wI wI (kX (L_aload_n (r := (some sv)) 9 X dL_isHeld_210 rfl rfl)) (kX (L_iload_n (x := person_) 11 X dL_isHeld_211 rfl rfl)) (kX (L_iload_n (x := meeting_) 12 X dL_isHeld_212 rfl rfl)) (kX (L_iload (x := day_90) 0 X dL_isHeld_213 rfl)) (fun v0 v1 v2 v3 st L a b hd hc hs h => by obtain ⟨rfl, h1⟩ := lgo_of h; exact k_callH (st := st) X htr (E_L_begin sv v1 v2 v3) lkh_begin stl_begin ml_L_169 rfl (by rw [hR]; exact ⟨Nat.le_of_ble_eq_true rfl, Nat.le_of_ble_eq_true rfl⟩) (Nat.le_trans hd (by decide)) ⟨hc, hs⟩ dL_isHeld_215 h1)) (kS (S_istore (ev := fun begin_95 => [(13, .int begin_95), (12, .int day_90), (11, .int s81.2.2), (10, .int s81.2.1), (9, .int s81.1), (8, .int dates_27), (7, .int there_23), (6, .int sequence_19), (5, .int now_15), (4, .int own_8), (0, va_rf (some sv)), (1, va_rf (some (sv + 20))), (2, .int person_), (3, .int meeting_)]) X dL_isHeld_218 (by rw [hN]; decide) (fun _ => rfl))) fun begin_95 =>
  (KST_let (KXE_4 (pB := pI) wR wI wI (kX (L_aload_n (r := (some sv)) 10 X dL_isHeld_220 rfl rfl)) (kX (L_iload_n (x := person_) 12 X dL_isHeld_221 rfl rfl)) (kX (L_iload_n (x := meeting_) 13 X dL_isHeld_222 rfl rfl)) (kX (L_iload (x := day_90) 1 X dL_isHeld_223 rfl)) (fun v0 v1 v2 v3 st L a b hd hc hs h => by obtain ⟨rfl, h1⟩ := lgo_of h; exact k_callH (st := st) X htr (E_L_ownAnswer sv v1 v2 v3) lkh_ownAnswer stl_ownAnswer ml_L_171 rfl (by rw [hR]; exact ⟨Nat.le_of_ble_eq_true rfl, Nat.le_of_ble_eq_true rfl⟩) (Nat.le_trans hd (by decide)) ⟨hc, hs⟩ dL_isHeld_225 h1)) (kS (S_istore (ev := fun answer_100 => [(14, .int answer_100), (13, .int begin_95), (12, .int day_90), (11, .int s81.2.2), (10, .int s81.2.1), (9, .int s81.1), (8, .int dates_27), (7, .int there_23), (6, .int sequence_19), (5, .int now_15), (4, .int own_8), (0, va_rf (some sv)), (1, va_rf (some (sv + 20))), (2, .int person_), (3, .int meeting_)]) X dL_isHeld_228 (by rw [hN]; decide) (fun _ => rfl))) fun answer_100 =>
  (KST_let (KXE_3 (pB := pI) wR wI (kX (L_aload_n (r := (some sv)) 11 X dL_isHeld_230 rfl rfl)) (kX (L_iload_n (x := person_) 13 X dL_isHeld_231 rfl rfl)) (kX (L_iload (x := begin_95) 1 X dL_isHeld_232 rfl)) (fun v0 v1 v2 st L a b hd hc hs h => by obtain ⟨rfl, h1⟩ := lgo_of h; exact k_callH (st := st) X htr (E_L_rank sv v1 v2) lkh_rank stl_rank ml_L_173 rfl (by rw [hR]; exact ⟨Nat.le_of_ble_eq_true rfl, Nat.le_of_ble_eq_true rfl⟩) (Nat.le_trans hd (by decide)) ⟨hc, hs⟩ dL_isHeld_234 h1)) (kS (S_istore (ev := fun rank_104 => [(15, .int rank_104), (14, .int answer_100), (13, .int begin_95), (12, .int day_90), (11, .int s81.2.2), (10, .int s81.2.1), (9, .int s81.1), (8, .int dates_27), (7, .int there_23), (6, .int sequence_19), (5, .int now_15), (4, .int own_8), (0, va_rf (some sv)), (1, va_rf (some (sv + 20))), (2, .int person_), (3, .int meeting_)]) X dL_isHeld_237 (by rw [hN]; decide) (fun _ => rfl))) fun rank_104 =>
  (KST_let (KXE_b2i (KCE_and (KCE_and (KCE_and (KCE_and (KCE_and (KCE_and (KCE_and (KCE_2 wI (kX (L_iload (x := day_90) 3 X dL_isHeld_239 rfl)) (kX (L_iload (x := s81.2.1) 5 X dL_isHeld_241 rfl)) (kF2 (C_gt_F X dL_isHeld_243 (by decide)))) (KCE_2 wI (kX (L_iload (x := day_90) 3 X dL_isHeld_246 rfl)) (kX (L_bipush (v := I 60) X dL_isHeld_248 (by decide))) (kF2 (C_lt_F X dL_isHeld_250 (by decide))))) (KCE_2 wI (kX (L_iload (x := begin_95) 2 X dL_isHeld_253 rfl)) (kX (L_bipush (v := I (-20)) X dL_isHeld_255 (by decide))) (kF2 (C_ge_F X dL_isHeld_257 (by decide))))) (KCE_2 wI (kX (L_iload (x := begin_95) 2 X dL_isHeld_260 rfl)) (kX (L_sipush (v := I 1500) X dL_isHeld_262 (by decide))) (kF2 (C_lt_F X dL_isHeld_265 (by decide))))) (KCE_1 (kX (L_iload (x := answer_100) 1 X dL_isHeld_268 rfl)) (kF1 (Z_ge_F X dL_isHeld_270 (by decide))))) (KCE_2 wI (kX (L_iload (x := answer_100) 1 X dL_isHeld_273 rfl)) (kX (L_iconst (v := I 5) X dL_isHeld_275 (by decide))) (kF2 (C_lt_F X dL_isHeld_276 (by decide))))) (KCE_or (KCE_not (KCE_1 (kX (L_iload (x := own_8) 11 X dL_isHeld_279 rfl)) (kF1 (Z_ne_F X dL_isHeld_281 (by decide))))) (KCE_2 wI (kX (L_iload (x := answer_100) 1 X dL_isHeld_284 rfl)) (kX (L_iconst (v := I 1) X dL_isHeld_286 (by decide))) (kF2 (C_eq_F X dL_isHeld_287 (by decide)))))) (KCE_2 wI (kX (L_iload (x := rank_104) 0 X dL_isHeld_290 rfl)) (KXE_tern (KCE_2 wI (kX (L_iload (x := answer_100) 1 X dL_isHeld_292 rfl)) (kX (L_iconst (v := I 1) X dL_isHeld_294 (by decide))) (kF2 (C_eq_F X dL_isHeld_295 (by decide)))) (kX (L_iconst (v := I 2) X dL_isHeld_298 (by decide))) (kJ (S_goto X dL_isHeld_299 (by decide))) (KXE_tern (KCE_2 wI (kX (L_iload (x := answer_100) 1 X dL_isHeld_302 rfl)) (kX (L_iconst (v := I 2) X dL_isHeld_304 (by decide))) (kF2 (C_eq_F X dL_isHeld_305 (by decide)))) (kX (L_iconst (v := I 1) X dL_isHeld_308 (by decide))) (kJ (S_goto X dL_isHeld_309 (by decide))) (kX (L_iconst (v := I 0) X dL_isHeld_312 (by decide))))) (kF2 (C_ge_F X dL_isHeld_313 (by decide))))) (kB (S_b1 X dL_isHeld_316 dL_isHeld_317 (by decide))) (kB (S_b0 X dL_isHeld_320))) (kS (S_istore (ev := fun is_137 => [(9, .int is_137), (15, .int rank_104), (14, .int answer_100), (13, .int begin_95), (12, .int day_90), (11, .int s81.2.2), (10, .int s81.2.1), (8, .int dates_27), (7, .int there_23), (6, .int sequence_19), (5, .int now_15), (4, .int own_8), (0, va_rf (some sv)), (1, va_rf (some (sv + 20))), (2, .int person_), (3, .int meeting_)]) X dL_isHeld_321 (by rw [hN]; decide) (fun _ => rfl))) fun is_137 =>
  (KST_let (kX (L_iload (x := day_90) 4 X dL_isHeld_323 rfl)) (kS (S_istore (ev := fun last_138 => [(10, .int last_138), (9, .int is_137), (15, .int rank_104), (14, .int answer_100), (13, .int begin_95), (12, .int day_90), (11, .int s81.2.2), (8, .int dates_27), (7, .int there_23), (6, .int sequence_19), (5, .int now_15), (4, .int own_8), (0, va_rf (some sv)), (1, va_rf (some (sv + 20))), (2, .int person_), (3, .int meeting_)]) X dL_isHeld_325 (by rw [hN]; decide) (fun _ => rfl))) fun last_138 =>
  (KST_pre (env' := [(11, .int (s81.2.2 + 1)), (10, .int last_138), (9, .int is_137), (15, .int rank_104), (14, .int answer_100), (13, .int begin_95), (12, .int day_90), (8, .int dates_27), (7, .int there_23), (6, .int sequence_19), (5, .int now_15), (4, .int own_8), (0, va_rf (some sv)), (1, va_rf (some (sv + 20))), (2, .int person_), (3, .int meeting_)]) (kP (S_iinc 6 X dL_isHeld_327 rfl rfl (by rw [hN]; decide) rfl))
  (KST_done (upd := (fun (s : Int32 × Int32 × Int32) => [(11, .int s.2.2), (10, .int s.2.1), (9, .int s.1), (8, .int dates_27), (7, .int there_23), (6, .int sequence_19), (5, .int now_15), (4, .int own_8), (0, va_rf (some sv)), (1, va_rf (some (sv + 20))), (2, .int person_), (3, .int meeting_)])) (s := (is_137, last_138, (s81.2.2 + 1))) [0, 1, 2, 7, 8, 9, 10, 11, 12, 13, 14, 15] rfl)))))))) fun _ L a b h => kJ (S_goto X dL_isHeld_330 (by decide)) [] L a b h))) fun s139 =>
  (kretZ X C hr dL_isHeld_395 (KXE_b2i (KCE_and (KCE_and (KCE_and (KCE_1 (kX (L_iload (x := s139.1) 2 X dL_isHeld_333 rfl)) (kF1 (Z_ne_F X dL_isHeld_335 (by decide)))) (KCE_2 wI (KXE_4 (pB := pI) wR wI wI (kX (L_aload_n (r := (some sv)) 8 X dL_isHeld_338 rfl rfl)) (kX (L_iload_n (x := person_) 10 X dL_isHeld_339 rfl rfl)) (kX (L_iload_n (x := meeting_) 11 X dL_isHeld_340 rfl rfl)) (kX (L_bipush (v := I 60) X dL_isHeld_341 (by decide))) (fun v0 v1 v2 v3 st L a b hd hc hs h => by obtain ⟨rfl, h1⟩ := lgo_of h; exact k_callH (st := st) X htr (E_L_begin sv v1 v2 v3) lkh_begin stl_begin ml_L_169 rfl (by rw [hR]; exact ⟨Nat.le_of_ble_eq_true rfl, Nat.le_of_ble_eq_true rfl⟩) (Nat.le_trans hd (by decide)) ⟨hc, hs⟩ dL_isHeld_343 h1)) (kX (L_ldc (v := I (-1000002)) X dL_isHeld_346 kd_L_21)) (kF2 (C_eq_F X dL_isHeld_348 (by decide))))) (KCE_2 wI (KXE_4 (pB := pI) wR wI wI (kX (L_aload_n (r := (some sv)) 8 X dL_isHeld_351 rfl rfl)) (kX (L_iload_n (x := person_) 10 X dL_isHeld_352 rfl rfl)) (kX (L_iload_n (x := meeting_) 11 X dL_isHeld_353 rfl rfl)) (kX (L_iconst (v := I (-1)) X dL_isHeld_354 (by decide))) (fun v0 v1 v2 v3 st L a b hd hc hs h => by obtain ⟨rfl, h1⟩ := lgo_of h; exact k_callH (st := st) X htr (E_L_ownAnswer sv v1 v2 v3) lkh_ownAnswer stl_ownAnswer ml_L_171 rfl (by rw [hR]; exact ⟨Nat.le_of_ble_eq_true rfl, Nat.le_of_ble_eq_true rfl⟩) (Nat.le_trans hd (by decide)) ⟨hc, hs⟩ dL_isHeld_355 h1)) (kX (L_ldc (v := I (-1000002)) X dL_isHeld_358 kd_L_21)) (kF2 (C_eq_F X dL_isHeld_360 (by decide))))) (KCE_tern (KCE_and (KCE_2 wI (kX (L_iload (x := dates_27) 3 X dL_isHeld_363 rfl)) (kX (L_bipush (v := I 60) X dL_isHeld_365 (by decide))) (kF2 (C_lt_F X dL_isHeld_367 (by decide)))) (KCE_2 wI (kX (L_iload (x := s139.2.1) 1 X dL_isHeld_370 rfl)) (kX (L_bipush (v := I 59) X dL_isHeld_372 (by decide))) (kF2 (C_lt_F X dL_isHeld_374 (by decide))))) (KCE_2 wI (KXE_4 (pB := pI) wR wI wI (kX (L_aload_n (r := (some sv)) 8 X dL_isHeld_377 rfl rfl)) (kX (L_iload_n (x := person_) 10 X dL_isHeld_378 rfl rfl)) (kX (L_iload_n (x := meeting_) 11 X dL_isHeld_379 rfl rfl)) (kX (L_bipush (v := I 59) X dL_isHeld_380 (by decide))) (fun v0 v1 v2 v3 st L a b hd hc hs h => by obtain ⟨rfl, h1⟩ := lgo_of h; exact k_callH (st := st) X htr (E_L_begin sv v1 v2 v3) lkh_begin stl_begin ml_L_169 rfl (by rw [hR]; exact ⟨Nat.le_of_ble_eq_true rfl, Nat.le_of_ble_eq_true rfl⟩) (Nat.le_trans hd (by decide)) ⟨hc, hs⟩ dL_isHeld_382 h1)) (kX (L_ldc (v := I (-1000003)) X dL_isHeld_385 kd_L_38)) (kF2 (C_eq_F X dL_isHeld_387 (by decide)))) KCE_true)) (kB (S_b1 X dL_isHeld_390 dL_isHeld_391 (by decide))) (kB (S_b0 X dL_isHeld_394)))))))))))))) h0 (by rw [hR]; exact Nat.le_of_ble_eq_true rfl) (by rw [hR]; exact Nat.le_of_ble_eq_true rfl)
theorem dL_areAsked_0 : decode cL_areAsked 0 = .ok (.aload_n 0, 1) := by decide +kernel
theorem dL_areAsked_1 : decode cL_areAsked 1 = .ok (.iload_n 3, 1) := by decide +kernel
theorem dL_areAsked_2 : decode cL_areAsked 2 = .ok (.aload_n 1, 1) := by decide +kernel
theorem dL_areAsked_3 : decode cL_areAsked 3 = .ok (.iload_n 3, 1) := by decide +kernel
theorem dL_areAsked_4 : decode cL_areAsked 4 = .ok (.iaload, 1) := by decide +kernel
theorem dL_areAsked_5 : decode cL_areAsked 5 = .ok (.bipush 8, 2) := by decide +kernel
theorem dL_areAsked_7 : decode cL_areAsked 7 = .ok (.irem, 1) := by decide +kernel
theorem dL_areAsked_8 : decode cL_areAsked 8 = .ok (.invokestatic 175, 3) := by decide +kernel
theorem dL_areAsked_11 : decode cL_areAsked 11 = .ok (.ifCond .ne 7, 3) := by decide +kernel
theorem dL_areAsked_14 : decode cL_areAsked 14 = .ok (.iconst 1, 1) := by decide +kernel
theorem dL_areAsked_15 : decode cL_areAsked 15 = .ok (.goto 4, 3) := by decide +kernel
theorem dL_areAsked_18 : decode cL_areAsked 18 = .ok (.iconst 0, 1) := by decide +kernel
theorem dL_areAsked_19 : decode cL_areAsked 19 = .ok (.istore 5, 2) := by decide +kernel
theorem dL_areAsked_21 : decode cL_areAsked 21 = .ok (.iconst 0, 1) := by decide +kernel
theorem dL_areAsked_22 : decode cL_areAsked 22 = .ok (.istore 6, 2) := by decide +kernel
theorem dL_areAsked_24 : decode cL_areAsked 24 = .ok (.iload 6, 2) := by decide +kernel
theorem dL_areAsked_26 : decode cL_areAsked 26 = .ok (.iconst 5, 1) := by decide +kernel
theorem dL_areAsked_27 : decode cL_areAsked 27 = .ok (.if_icmp .ge 102, 3) := by decide +kernel
theorem dL_areAsked_30 : decode cL_areAsked 30 = .ok (.iload 5, 2) := by decide +kernel
theorem dL_areAsked_32 : decode cL_areAsked 32 = .ok (.ifCond .eq 97, 3) := by decide +kernel
theorem dL_areAsked_35 : decode cL_areAsked 35 = .ok (.aload_n 0, 1) := by decide +kernel
theorem dL_areAsked_36 : decode cL_areAsked 36 = .ok (.iload_n 3, 1) := by decide +kernel
theorem dL_areAsked_37 : decode cL_areAsked 37 = .ok (.iload 6, 2) := by decide +kernel
theorem dL_areAsked_39 : decode cL_areAsked 39 = .ok (.invokestatic 175, 3) := by decide +kernel
theorem dL_areAsked_42 : decode cL_areAsked 42 = .ok (.istore 7, 2) := by decide +kernel
theorem dL_areAsked_44 : decode cL_areAsked 44 = .ok (.aload_n 0, 1) := by decide +kernel
theorem dL_areAsked_45 : decode cL_areAsked 45 = .ok (.iload_n 3, 1) := by decide +kernel
theorem dL_areAsked_46 : decode cL_areAsked 46 = .ok (.iload 6, 2) := by decide +kernel
theorem dL_areAsked_48 : decode cL_areAsked 48 = .ok (.iload 4, 2) := by decide +kernel
theorem dL_areAsked_50 : decode cL_areAsked 50 = .ok (.invokestatic 177, 3) := by decide +kernel
theorem dL_areAsked_53 : decode cL_areAsked 53 = .ok (.istore 8, 2) := by decide +kernel
theorem dL_areAsked_55 : decode cL_areAsked 55 = .ok (.iload 8, 2) := by decide +kernel
theorem dL_areAsked_57 : decode cL_areAsked 57 = .ok (.aload_n 0, 1) := by decide +kernel
theorem dL_areAsked_58 : decode cL_areAsked 58 = .ok (.iload_n 3, 1) := by decide +kernel
theorem dL_areAsked_59 : decode cL_areAsked 59 = .ok (.iload 6, 2) := by decide +kernel
theorem dL_areAsked_61 : decode cL_areAsked 61 = .ok (.iload 4, 2) := by decide +kernel
theorem dL_areAsked_63 : decode cL_areAsked 63 = .ok (.invokestatic 179, 3) := by decide +kernel
theorem dL_areAsked_66 : decode cL_areAsked 66 = .ok (.if_icmp .ne 54, 3) := by decide +kernel
theorem dL_areAsked_69 : decode cL_areAsked 69 = .ok (.iload 8, 2) := by decide +kernel
theorem dL_areAsked_71 : decode cL_areAsked 71 = .ok (.ldc 38, 2) := by decide +kernel
theorem dL_areAsked_73 : decode cL_areAsked 73 = .ok (.if_icmp .eq 29, 3) := by decide +kernel
theorem dL_areAsked_76 : decode cL_areAsked 76 = .ok (.iload 7, 2) := by decide +kernel
theorem dL_areAsked_78 : decode cL_areAsked 78 = .ok (.iconst 1, 1) := by decide +kernel
theorem dL_areAsked_79 : decode cL_areAsked 79 = .ok (.if_icmp .ne 17, 3) := by decide +kernel
theorem dL_areAsked_82 : decode cL_areAsked 82 = .ok (.iload 8, 2) := by decide +kernel
theorem dL_areAsked_84 : decode cL_areAsked 84 = .ok (.ifCond .lt 36, 3) := by decide +kernel
theorem dL_areAsked_87 : decode cL_areAsked 87 = .ok (.iload 8, 2) := by decide +kernel
theorem dL_areAsked_89 : decode cL_areAsked 89 = .ok (.iconst 5, 1) := by decide +kernel
theorem dL_areAsked_90 : decode cL_areAsked 90 = .ok (.if_icmp .ge 30, 3) := by decide +kernel
theorem dL_areAsked_93 : decode cL_areAsked 93 = .ok (.goto 9, 3) := by decide +kernel
theorem dL_areAsked_96 : decode cL_areAsked 96 = .ok (.iload 8, 2) := by decide +kernel
theorem dL_areAsked_98 : decode cL_areAsked 98 = .ok (.iconst (-1), 1) := by decide +kernel
theorem dL_areAsked_99 : decode cL_areAsked 99 = .ok (.if_icmp .ne 21, 3) := by decide +kernel
theorem dL_areAsked_102 : decode cL_areAsked 102 = .ok (.aload_n 0, 1) := by decide +kernel
theorem dL_areAsked_103 : decode cL_areAsked 103 = .ok (.iload_n 3, 1) := by decide +kernel
theorem dL_areAsked_104 : decode cL_areAsked 104 = .ok (.iload 6, 2) := by decide +kernel
theorem dL_areAsked_106 : decode cL_areAsked 106 = .ok (.bipush 60, 2) := by decide +kernel
theorem dL_areAsked_108 : decode cL_areAsked 108 = .ok (.invokestatic 177, 3) := by decide +kernel
theorem dL_areAsked_111 : decode cL_areAsked 111 = .ok (.ldc 21, 2) := by decide +kernel
theorem dL_areAsked_113 : decode cL_areAsked 113 = .ok (.if_icmp .ne 7, 3) := by decide +kernel
theorem dL_areAsked_116 : decode cL_areAsked 116 = .ok (.iconst 1, 1) := by decide +kernel
theorem dL_areAsked_117 : decode cL_areAsked 117 = .ok (.goto 4, 3) := by decide +kernel
theorem dL_areAsked_120 : decode cL_areAsked 120 = .ok (.iconst 0, 1) := by decide +kernel
theorem dL_areAsked_121 : decode cL_areAsked 121 = .ok (.istore 5, 2) := by decide +kernel
theorem dL_areAsked_123 : decode cL_areAsked 123 = .ok (.iinc 6 1, 3) := by decide +kernel
theorem dL_areAsked_126 : decode cL_areAsked 126 = .ok (.goto (-102), 3) := by decide +kernel
theorem dL_areAsked_129 : decode cL_areAsked 129 = .ok (.aload_n 0, 1) := by decide +kernel
theorem dL_areAsked_130 : decode cL_areAsked 130 = .ok (.iload_n 3, 1) := by decide +kernel
theorem dL_areAsked_131 : decode cL_areAsked 131 = .ok (.invokestatic 181, 3) := by decide +kernel
theorem dL_areAsked_134 : decode cL_areAsked 134 = .ok (.istore 6, 2) := by decide +kernel
theorem dL_areAsked_136 : decode cL_areAsked 136 = .ok (.iconst (-1), 1) := by decide +kernel
theorem dL_areAsked_137 : decode cL_areAsked 137 = .ok (.istore 7, 2) := by decide +kernel
theorem dL_areAsked_139 : decode cL_areAsked 139 = .ok (.iconst 0, 1) := by decide +kernel
theorem dL_areAsked_140 : decode cL_areAsked 140 = .ok (.istore 8, 2) := by decide +kernel
theorem dL_areAsked_142 : decode cL_areAsked 142 = .ok (.iload 8, 2) := by decide +kernel
theorem dL_areAsked_144 : decode cL_areAsked 144 = .ok (.iload 6, 2) := by decide +kernel
theorem dL_areAsked_146 : decode cL_areAsked 146 = .ok (.if_icmp .ge 74, 3) := by decide +kernel
theorem dL_areAsked_149 : decode cL_areAsked 149 = .ok (.iload 5, 2) := by decide +kernel
theorem dL_areAsked_151 : decode cL_areAsked 151 = .ok (.ifCond .eq 69, 3) := by decide +kernel
theorem dL_areAsked_154 : decode cL_areAsked 154 = .ok (.aload_n 0, 1) := by decide +kernel
theorem dL_areAsked_155 : decode cL_areAsked 155 = .ok (.iload_n 3, 1) := by decide +kernel
theorem dL_areAsked_156 : decode cL_areAsked 156 = .ok (.iload 8, 2) := by decide +kernel
theorem dL_areAsked_158 : decode cL_areAsked 158 = .ok (.invokestatic 184, 3) := by decide +kernel
theorem dL_areAsked_161 : decode cL_areAsked 161 = .ok (.istore 9, 2) := by decide +kernel
theorem dL_areAsked_163 : decode cL_areAsked 163 = .ok (.iload 9, 2) := by decide +kernel
theorem dL_areAsked_165 : decode cL_areAsked 165 = .ok (.iload 7, 2) := by decide +kernel
theorem dL_areAsked_167 : decode cL_areAsked 167 = .ok (.if_icmp .le 40, 3) := by decide +kernel
theorem dL_areAsked_170 : decode cL_areAsked 170 = .ok (.iload 9, 2) := by decide +kernel
theorem dL_areAsked_172 : decode cL_areAsked 172 = .ok (.aload_n 2, 1) := by decide +kernel
theorem dL_areAsked_173 : decode cL_areAsked 173 = .ok (.iconst 1, 1) := by decide +kernel
theorem dL_areAsked_174 : decode cL_areAsked 174 = .ok (.iaload, 1) := by decide +kernel
theorem dL_areAsked_175 : decode cL_areAsked 175 = .ok (.if_icmp .ge 32, 3) := by decide +kernel
theorem dL_areAsked_178 : decode cL_areAsked 178 = .ok (.aload_n 0, 1) := by decide +kernel
theorem dL_areAsked_179 : decode cL_areAsked 179 = .ok (.iload 9, 2) := by decide +kernel
theorem dL_areAsked_181 : decode cL_areAsked 181 = .ok (.invokestatic 186, 3) := by decide +kernel
theorem dL_areAsked_184 : decode cL_areAsked 184 = .ok (.iconst 2, 1) := by decide +kernel
theorem dL_areAsked_185 : decode cL_areAsked 185 = .ok (.if_icmp .ne 22, 3) := by decide +kernel
theorem dL_areAsked_188 : decode cL_areAsked 188 = .ok (.aload_n 0, 1) := by decide +kernel
theorem dL_areAsked_189 : decode cL_areAsked 189 = .ok (.iload 9, 2) := by decide +kernel
theorem dL_areAsked_191 : decode cL_areAsked 191 = .ok (.invokestatic 188, 3) := by decide +kernel
theorem dL_areAsked_194 : decode cL_areAsked 194 = .ok (.aload_n 1, 1) := by decide +kernel
theorem dL_areAsked_195 : decode cL_areAsked 195 = .ok (.iload_n 3, 1) := by decide +kernel
theorem dL_areAsked_196 : decode cL_areAsked 196 = .ok (.iaload, 1) := by decide +kernel
theorem dL_areAsked_197 : decode cL_areAsked 197 = .ok (.bipush 8, 2) := by decide +kernel
theorem dL_areAsked_199 : decode cL_areAsked 199 = .ok (.irem, 1) := by decide +kernel
theorem dL_areAsked_200 : decode cL_areAsked 200 = .ok (.if_icmp .ne 7, 3) := by decide +kernel
theorem dL_areAsked_203 : decode cL_areAsked 203 = .ok (.iconst 1, 1) := by decide +kernel
theorem dL_areAsked_204 : decode cL_areAsked 204 = .ok (.goto 4, 3) := by decide +kernel
theorem dL_areAsked_207 : decode cL_areAsked 207 = .ok (.iconst 0, 1) := by decide +kernel
theorem dL_areAsked_208 : decode cL_areAsked 208 = .ok (.istore 5, 2) := by decide +kernel
theorem dL_areAsked_210 : decode cL_areAsked 210 = .ok (.iload 9, 2) := by decide +kernel
theorem dL_areAsked_212 : decode cL_areAsked 212 = .ok (.istore 7, 2) := by decide +kernel
theorem dL_areAsked_214 : decode cL_areAsked 214 = .ok (.iinc 8 1, 3) := by decide +kernel
theorem dL_areAsked_217 : decode cL_areAsked 217 = .ok (.goto (-75), 3) := by decide +kernel
theorem dL_areAsked_220 : decode cL_areAsked 220 = .ok (.iload 5, 2) := by decide +kernel
theorem dL_areAsked_222 : decode cL_areAsked 222 = .ok (.ifCond .eq 57, 3) := by decide +kernel
theorem dL_areAsked_225 : decode cL_areAsked 225 = .ok (.iload 6, 2) := by decide +kernel
theorem dL_areAsked_227 : decode cL_areAsked 227 = .ok (.ifCond .lt 52, 3) := by decide +kernel
theorem dL_areAsked_230 : decode cL_areAsked 230 = .ok (.aload_n 1, 1) := by decide +kernel
theorem dL_areAsked_231 : decode cL_areAsked 231 = .ok (.iload_n 3, 1) := by decide +kernel
theorem dL_areAsked_232 : decode cL_areAsked 232 = .ok (.iaload, 1) := by decide +kernel
theorem dL_areAsked_233 : decode cL_areAsked 233 = .ok (.sipush 4096, 3) := by decide +kernel
theorem dL_areAsked_236 : decode cL_areAsked 236 = .ok (.if_icmp .lt 16, 3) := by decide +kernel
theorem dL_areAsked_239 : decode cL_areAsked 239 = .ok (.iload 6, 2) := by decide +kernel
theorem dL_areAsked_241 : decode cL_areAsked 241 = .ok (.ifCond .ne 38, 3) := by decide +kernel
theorem dL_areAsked_244 : decode cL_areAsked 244 = .ok (.aload_n 0, 1) := by decide +kernel
theorem dL_areAsked_245 : decode cL_areAsked 245 = .ok (.iload_n 3, 1) := by decide +kernel
theorem dL_areAsked_246 : decode cL_areAsked 246 = .ok (.invokestatic 190, 3) := by decide +kernel
theorem dL_areAsked_249 : decode cL_areAsked 249 = .ok (.ifCond .ne 30, 3) := by decide +kernel
theorem dL_areAsked_252 : decode cL_areAsked 252 = .ok (.aload_n 0, 1) := by decide +kernel
theorem dL_areAsked_253 : decode cL_areAsked 253 = .ok (.iload_n 3, 1) := by decide +kernel
theorem dL_areAsked_254 : decode cL_areAsked 254 = .ok (.iload 6, 2) := by decide +kernel
theorem dL_areAsked_256 : decode cL_areAsked 256 = .ok (.invokestatic 184, 3) := by decide +kernel
theorem dL_areAsked_259 : decode cL_areAsked 259 = .ok (.ldc 18, 2) := by decide +kernel
theorem dL_areAsked_261 : decode cL_areAsked 261 = .ok (.if_icmp .ne 18, 3) := by decide +kernel
theorem dL_areAsked_264 : decode cL_areAsked 264 = .ok (.aload_n 0, 1) := by decide +kernel
theorem dL_areAsked_265 : decode cL_areAsked 265 = .ok (.iload_n 3, 1) := by decide +kernel
theorem dL_areAsked_266 : decode cL_areAsked 266 = .ok (.iconst (-1), 1) := by decide +kernel
theorem dL_areAsked_267 : decode cL_areAsked 267 = .ok (.invokestatic 184, 3) := by decide +kernel
theorem dL_areAsked_270 : decode cL_areAsked 270 = .ok (.ldc 18, 2) := by decide +kernel
theorem dL_areAsked_272 : decode cL_areAsked 272 = .ok (.if_icmp .ne 7, 3) := by decide +kernel
theorem dL_areAsked_275 : decode cL_areAsked 275 = .ok (.iconst 1, 1) := by decide +kernel
theorem dL_areAsked_276 : decode cL_areAsked 276 = .ok (.goto 4, 3) := by decide +kernel
theorem dL_areAsked_279 : decode cL_areAsked 279 = .ok (.iconst 0, 1) := by decide +kernel
theorem dL_areAsked_280 : decode cL_areAsked 280 = .ok (.ireturn, 1) := by decide +kernel
theorem lk_L_areAsked : LK yL_areAsked cL_areAsked 10 (some .boolean) 5 := ⟨qW_at 489 (by decide +kernel) rfl, qW_at 28 (by decide +kernel) rfl, by decide, by decide, by decide +kernel⟩
theorem st_L_areAsked : Cond.static yL_areAsked ∈ qW := qW_at 488 (by decide +kernel) rfl
def F_L_areAsked (sv : Nat) (meeting_ day_ : Int32) : LX Int32 :=
  (lb (lb (lb (lb (lp (some sv)) fun v5 => lb (lp meeting_) fun v6 => lb (lb (lb (lp (some (sv + 20))) fun v1 => lb (lp meeting_) fun v2 => lai sv v1 v2) fun v3 => lb (lp (I 8)) fun v4 => (lrem v3 v4)) fun v7 => lgo v5 sv (w_isAsked v6 v7)) fun v8 => lp (decide (v8 = 0))) fun v9 => lp (b2i v9)) fun is_10 =>
  (lb (lp (I 0)) fun person_11 =>
  (lb (ll 6 (fun (s12 : Int32 × Int32) => (lb (lb (lp s12.2) fun v13 => lb (lp (I 5)) fun v14 => lp (decide (v13 < v14))) fun v16 => if v16 then (lb (lp s12.1) fun v15 => lp (decide (¬ v15 = 0))) else lp false)) (fun (s12 : Int32 × Int32) =>
  (lb (lb (lp (some sv)) fun v17 => lb (lp meeting_) fun v18 => lb (lp s12.2) fun v19 => lgo v17 sv (w_isAsked v18 v19)) fun asked_20 =>
  (lb (lb (lp (some sv)) fun v21 => lb (lp meeting_) fun v22 => lb (lp s12.2) fun v23 => lb (lp day_) fun v24 => lgo v21 sv (w_answerOf v22 v23 v24)) fun answer_25 =>
  (lb (lb (lb (lb (lb (lp answer_25) fun v26 => lb (lb (lp (some sv)) fun v27 => lb (lp meeting_) fun v28 => lb (lp s12.2) fun v29 => lb (lp day_) fun v30 => lgo v27 sv (w_answerByLog v28 v29 v30)) fun v31 => lp (decide (v26 = v31))) fun v44 => if v44 then (lb (lb (lp answer_25) fun v32 => lb (lp (I (-1000003))) fun v33 => lp (decide (v32 = v33))) fun v43 => if v43 then lp true else (lb (lb (lp asked_20) fun v34 => lb (lp (I 1)) fun v35 => lp (decide (v34 = v35))) fun v40 => if v40 then (lb (lb (lp answer_25) fun v36 => lp (decide (0 ≤ v36))) fun v39 => if v39 then (lb (lp answer_25) fun v37 => lb (lp (I 5)) fun v38 => lp (decide (v37 < v38))) else lp false) else (lb (lp answer_25) fun v41 => lb (lp (I (-1))) fun v42 => lp (decide (v41 = v42))))) else lp false) fun v51 => if v51 then (lb (lb (lp (some sv)) fun v45 => lb (lp meeting_) fun v46 => lb (lp s12.2) fun v47 => lb (lp (I 60)) fun v48 => lgo v45 sv (w_answerOf v46 v47 v48)) fun v49 => lb (lp (I (-1000002))) fun v50 => lp (decide (v49 = v50))) else lp false) fun v52 => lp (b2i v52)) fun is_53 =>
  (lp (is_53, (s12.2 + 1))))))) (is_10, person_11)) fun s54 =>
  (lb (lb (lp (some sv)) fun v55 => lb (lp meeting_) fun v56 => lgo v55 sv (w_proposals v56)) fun open_57 =>
  (lb (lp (I (-1))) fun last_58 =>
  (lb (lp (I 0)) fun k_59 =>
  (lb (ll 151 (fun (s60 : Int32 × Int32 × Int32) => (lb (lb (lp s60.2.2) fun v61 => lb (lp open_57) fun v62 => lp (decide (v61 < v62))) fun v64 => if v64 then (lb (lp s60.1) fun v63 => lp (decide (¬ v63 = 0))) else lp false)) (fun (s60 : Int32 × Int32 × Int32) =>
  (lb (lb (lp (some sv)) fun v65 => lb (lp meeting_) fun v66 => lb (lp s60.2.2) fun v67 => lgo v65 sv (w_proposalAt v66 v67)) fun message_68 =>
  (lb (lb (lb (lb (lb (lb (lp message_68) fun v69 => lb (lp s60.2.1) fun v70 => lp (decide (v70 < v69))) fun v75 => if v75 then (lb (lp message_68) fun v71 => lb (lb (lp (some (sv + 22))) fun v72 => lb (lp (I 1)) fun v73 => lai sv v72 v73) fun v74 => lp (decide (v71 < v74))) else lp false) fun v80 => if v80 then (lb (lb (lp (some sv)) fun v76 => lb (lp message_68) fun v77 => lgo v76 sv (w_kindOf v77)) fun v78 => lb (lp (I 2)) fun v79 => lp (decide (v78 = v79))) else lp false) fun v89 => if v89 then (lb (lb (lp (some sv)) fun v81 => lb (lp message_68) fun v82 => lgo v81 sv (w_receiver v82)) fun v83 => lb (lb (lb (lp (some (sv + 20))) fun v84 => lb (lp meeting_) fun v85 => lai sv v84 v85) fun v86 => lb (lp (I 8)) fun v87 => (lrem v86 v87)) fun v88 => lp (decide (v83 = v88))) else lp false) fun v90 => lp (b2i v90)) fun is_91 =>
  (lb (lp message_68) fun last_92 =>
  (lp (is_91, last_92, (s60.2.2 + 1))))))) (s54.1, last_58, k_59)) fun s93 =>
  (lb (lb (lb (lb (lb (lb (lb (lp s93.1) fun v94 => lp (decide (¬ v94 = 0))) fun v96 => if v96 then (lb (lp open_57) fun v95 => lp (decide (0 ≤ v95))) else lp false) fun v107 => if v107 then (lb (lb (lb (lp (some (sv + 20))) fun v97 => lb (lp meeting_) fun v98 => lai sv v97 v98) fun v99 => lb (lp (I 4096)) fun v100 => lp (decide (v99 < v100))) fun v106 => if v106 then lp true else (lb (lb (lp open_57) fun v101 => lp (decide (v101 = 0))) fun v105 => if v105 then (lb (lb (lp (some sv)) fun v102 => lb (lp meeting_) fun v103 => lgo v102 sv (w_agrees v103)) fun v104 => lp (decide (v104 = 0))) else lp false)) else lp false) fun v113 => if v113 then (lb (lb (lp (some sv)) fun v108 => lb (lp meeting_) fun v109 => lb (lp open_57) fun v110 => lgo v108 sv (w_proposalAt v109 v110)) fun v111 => lb (lp (I (-1000001))) fun v112 => lp (decide (v111 = v112))) else lp false) fun v119 => if v119 then (lb (lb (lp (some sv)) fun v114 => lb (lp meeting_) fun v115 => lb (lp (I (-1))) fun v116 => lgo v114 sv (w_proposalAt v115 v116)) fun v117 => lb (lp (I (-1000001))) fun v118 => lp (decide (v117 = v118))) else lp false) fun v120 => lp (b2i v120)) lz))))))))
set_option maxRecDepth 100000 in
set_option maxHeartbeats 4000000 in
theorem M_L_areAsked (sv : Nat) (meeting_ day_ : Int32) : LM yL_areAsked cL_areAsked 10 (some .boolean) 10 171 696 4176 [.ref sv, .ref (sv + 20), .ref (sv + 22), .int meeting_, .int day_] sv (F_L_areAsked sv meeting_ day_) := by
  refine LM_of (env0 := [(0, va_rf (some sv)), (1, va_rf (some (sv + 20))), (2, va_rf (some (sv + 22))), (3, .int meeting_), (4, .int day_)]) (by decide) (by exact Nat.le_of_ble_eq_true rfl) rfl (fun k R X C hR hN hr L0 h0 => ?_)
  have X : CX k cL_areAsked RL := X
  have htr := C.2.2.2.1
  unfold F_L_areAsked at h0
  exact KSB_go (KSB_let (KXE_b2i (KCE_1 (KXE_3 (pB := pI) wR wI (kX (L_aload_n (r := (some sv)) 0 X dL_areAsked_0 rfl rfl)) (kX (L_iload_n (x := meeting_) 3 X dL_areAsked_1 rfl rfl)) (KXE_2 wI (KXE_2 wR (kX (L_aload_n (r := (some (sv + 20))) 1 X dL_areAsked_2 rfl rfl)) (kX (L_iload_n (x := meeting_) 3 X dL_areAsked_3 rfl rfl)) (kai X dL_areAsked_4)) (kX (L_bipush (v := I 8) X dL_areAsked_5 (by decide))) (krem X dL_areAsked_7)) (fun v0 v1 v2 st L a b hd hc hs h => by obtain ⟨rfl, h1⟩ := lgo_of h; exact k_callH (st := st) X htr (E_L_isAsked sv v1 v2) lkh_isAsked stl_isAsked ml_L_175 rfl (by rw [hR]; exact ⟨Nat.le_of_ble_eq_true rfl, Nat.le_of_ble_eq_true rfl⟩) (Nat.le_trans hd (by decide)) ⟨hc, hs⟩ dL_areAsked_8 h1)) (kF1 (Z_eq_F X dL_areAsked_11 (by decide)))) (kB (S_b1 X dL_areAsked_14 dL_areAsked_15 (by decide))) (kB (S_b0 X dL_areAsked_18))) (kS (S_istore (ev := fun is_10 => [(5, .int is_10), (0, va_rf (some sv)), (1, va_rf (some (sv + 20))), (2, va_rf (some (sv + 22))), (3, .int meeting_), (4, .int day_)]) X dL_areAsked_19 (by rw [hN]; decide) (fun _ => rfl))) fun is_10 =>
  (KSB_let (kX (L_iconst (v := I 0) X dL_areAsked_21 (by decide))) (kS (S_istore (ev := fun person_11 => [(6, .int person_11), (5, .int is_10), (0, va_rf (some sv)), (1, va_rf (some (sv + 20))), (2, va_rf (some (sv + 22))), (3, .int meeting_), (4, .int day_)]) X dL_areAsked_22 (by rw [hN]; decide) (fun _ => rfl))) fun person_11 =>
  (KSB_seq (KST_loop (σ := Int32 × Int32) (upd := (fun (s : Int32 × Int32) => [(6, .int s.2), (5, .int s.1), (0, va_rf (some sv)), (1, va_rf (some (sv + 20))), (2, va_rf (some (sv + 22))), (3, .int meeting_), (4, .int day_)])) (s0 := (is_10, person_11)) (n := 6) (fun L a b h => GL_sub [0, 1, 2, 3, 4, 5, 6] rfl h)
  (fun s12 => (KCE_and (KCE_2 wI (kX (L_iload (x := s12.2) 0 X dL_areAsked_24 rfl)) (kX (L_iconst (v := I 5) X dL_areAsked_26 (by decide))) (kF2 (C_lt_F X dL_areAsked_27 (by decide)))) (KCE_1 (kX (L_iload (x := s12.1) 1 X dL_areAsked_30 rfl)) (kF1 (Z_ne_F X dL_areAsked_32 (by decide))))))
  (fun s12 => (KST_post (KST_let (KXE_3 (pB := pI) wR wI (kX (L_aload_n (r := (some sv)) 2 X dL_areAsked_35 rfl rfl)) (kX (L_iload_n (x := meeting_) 5 X dL_areAsked_36 rfl rfl)) (kX (L_iload (x := s12.2) 0 X dL_areAsked_37 rfl)) (fun v0 v1 v2 st L a b hd hc hs h => by obtain ⟨rfl, h1⟩ := lgo_of h; exact k_callH (st := st) X htr (E_L_isAsked sv v1 v2) lkh_isAsked stl_isAsked ml_L_175 rfl (by rw [hR]; exact ⟨Nat.le_of_ble_eq_true rfl, Nat.le_of_ble_eq_true rfl⟩) (Nat.le_trans hd (by decide)) ⟨hc, hs⟩ dL_areAsked_39 h1)) (kS (S_istore (ev := fun asked_20 => [(7, .int asked_20), (6, .int s12.2), (5, .int s12.1), (0, va_rf (some sv)), (1, va_rf (some (sv + 20))), (2, va_rf (some (sv + 22))), (3, .int meeting_), (4, .int day_)]) X dL_areAsked_42 (by rw [hN]; decide) (fun _ => rfl))) fun asked_20 =>
  (KST_let (KXE_4 (pB := pI) wR wI wI (kX (L_aload_n (r := (some sv)) 3 X dL_areAsked_44 rfl rfl)) (kX (L_iload_n (x := meeting_) 6 X dL_areAsked_45 rfl rfl)) (kX (L_iload (x := s12.2) 1 X dL_areAsked_46 rfl)) (kX (L_iload (x := day_) 7 X dL_areAsked_48 rfl)) (fun v0 v1 v2 v3 st L a b hd hc hs h => by obtain ⟨rfl, h1⟩ := lgo_of h; exact k_callH (st := st) X htr (E_L_answerOf sv v1 v2 v3) lkh_answerOf stl_answerOf ml_L_177 rfl (by rw [hR]; exact ⟨Nat.le_of_ble_eq_true rfl, Nat.le_of_ble_eq_true rfl⟩) (Nat.le_trans hd (by decide)) ⟨hc, hs⟩ dL_areAsked_50 h1)) (kS (S_istore (ev := fun answer_25 => [(8, .int answer_25), (7, .int asked_20), (6, .int s12.2), (5, .int s12.1), (0, va_rf (some sv)), (1, va_rf (some (sv + 20))), (2, va_rf (some (sv + 22))), (3, .int meeting_), (4, .int day_)]) X dL_areAsked_53 (by rw [hN]; decide) (fun _ => rfl))) fun answer_25 =>
  (KST_let (KXE_b2i (KCE_and (KCE_and (KCE_2 wI (kX (L_iload (x := answer_25) 0 X dL_areAsked_55 rfl)) (KXE_4 (pB := pI) wR wI wI (kX (L_aload_n (r := (some sv)) 4 X dL_areAsked_57 rfl rfl)) (kX (L_iload_n (x := meeting_) 7 X dL_areAsked_58 rfl rfl)) (kX (L_iload (x := s12.2) 2 X dL_areAsked_59 rfl)) (kX (L_iload (x := day_) 8 X dL_areAsked_61 rfl)) (fun v0 v1 v2 v3 st L a b hd hc hs h => by obtain ⟨rfl, h1⟩ := lgo_of h; exact k_callH (st := st) X htr (E_L_answerByLog sv v1 v2 v3) lkh_answerByLog stl_answerByLog ml_L_179 rfl (by rw [hR]; exact ⟨Nat.le_of_ble_eq_true rfl, Nat.le_of_ble_eq_true rfl⟩) (Nat.le_trans hd (by decide)) ⟨hc, hs⟩ dL_areAsked_63 h1)) (kF2 (C_eq_F X dL_areAsked_66 (by decide)))) (KCE_or (KCE_2 wI (kX (L_iload (x := answer_25) 0 X dL_areAsked_69 rfl)) (kX (L_ldc (v := I (-1000003)) X dL_areAsked_71 kd_L_38)) (kF2 (C_eq_T X dL_areAsked_73 (by decide)))) (KCE_tern (KCE_2 wI (kX (L_iload (x := asked_20) 1 X dL_areAsked_76 rfl)) (kX (L_iconst (v := I 1) X dL_areAsked_78 (by decide))) (kF2 (C_eq_F X dL_areAsked_79 (by decide)))) (KCE_post (KCE_and (KCE_1 (kX (L_iload (x := answer_25) 0 X dL_areAsked_82 rfl)) (kF1 (Z_ge_F X dL_areAsked_84 (by decide)))) (KCE_2 wI (kX (L_iload (x := answer_25) 0 X dL_areAsked_87 rfl)) (kX (L_iconst (v := I 5) X dL_areAsked_89 (by decide))) (kF2 (C_lt_F X dL_areAsked_90 (by decide))))) (kJ (S_goto X dL_areAsked_93 (by decide)))) (KCE_2 wI (kX (L_iload (x := answer_25) 0 X dL_areAsked_96 rfl)) (kX (L_iconst (v := I (-1)) X dL_areAsked_98 (by decide))) (kF2 (C_eq_F X dL_areAsked_99 (by decide))))))) (KCE_2 wI (KXE_4 (pB := pI) wR wI wI (kX (L_aload_n (r := (some sv)) 4 X dL_areAsked_102 rfl rfl)) (kX (L_iload_n (x := meeting_) 7 X dL_areAsked_103 rfl rfl)) (kX (L_iload (x := s12.2) 2 X dL_areAsked_104 rfl)) (kX (L_bipush (v := I 60) X dL_areAsked_106 (by decide))) (fun v0 v1 v2 v3 st L a b hd hc hs h => by obtain ⟨rfl, h1⟩ := lgo_of h; exact k_callH (st := st) X htr (E_L_answerOf sv v1 v2 v3) lkh_answerOf stl_answerOf ml_L_177 rfl (by rw [hR]; exact ⟨Nat.le_of_ble_eq_true rfl, Nat.le_of_ble_eq_true rfl⟩) (Nat.le_trans hd (by decide)) ⟨hc, hs⟩ dL_areAsked_108 h1)) (kX (L_ldc (v := I (-1000002)) X dL_areAsked_111 kd_L_21)) (kF2 (C_eq_F X dL_areAsked_113 (by decide))))) (kB (S_b1 X dL_areAsked_116 dL_areAsked_117 (by decide))) (kB (S_b0 X dL_areAsked_120))) (kS (S_istore (ev := fun is_53 => [(5, .int is_53), (8, .int answer_25), (7, .int asked_20), (6, .int s12.2), (0, va_rf (some sv)), (1, va_rf (some (sv + 20))), (2, va_rf (some (sv + 22))), (3, .int meeting_), (4, .int day_)]) X dL_areAsked_121 (by rw [hN]; decide) (fun _ => rfl))) fun is_53 =>
  (KST_pre (env' := [(6, .int (s12.2 + 1)), (5, .int is_53), (8, .int answer_25), (7, .int asked_20), (0, va_rf (some sv)), (1, va_rf (some (sv + 20))), (2, va_rf (some (sv + 22))), (3, .int meeting_), (4, .int day_)]) (kP (S_iinc 3 X dL_areAsked_123 rfl rfl (by rw [hN]; decide) rfl))
  (KST_done (upd := (fun (s : Int32 × Int32) => [(6, .int s.2), (5, .int s.1), (0, va_rf (some sv)), (1, va_rf (some (sv + 20))), (2, va_rf (some (sv + 22))), (3, .int meeting_), (4, .int day_)])) (s := (is_53, (s12.2 + 1))) [0, 1, 4, 5, 6, 7, 8] rfl))))) fun _ L a b h => kJ (S_goto X dL_areAsked_126 (by decide)) [] L a b h))) fun s54 =>
  (KSB_let (KXE_2 (pB := pI) wR (kX (L_aload_n (r := (some sv)) 2 X dL_areAsked_129 rfl rfl)) (kX (L_iload_n (x := meeting_) 5 X dL_areAsked_130 rfl rfl)) (fun v0 v1 st L a b hd hc hs h => by obtain ⟨rfl, h1⟩ := lgo_of h; exact k_callH (st := st) X htr (E_L_proposals sv v1) lkh_proposals stl_proposals ml_L_181 rfl (by rw [hR]; exact ⟨Nat.le_of_ble_eq_true rfl, Nat.le_of_ble_eq_true rfl⟩) (Nat.le_trans hd (by decide)) ⟨hc, hs⟩ dL_areAsked_131 h1)) (kS (S_istore (ev := fun open_57 => [(6, .int open_57), (5, .int s54.1), (0, va_rf (some sv)), (1, va_rf (some (sv + 20))), (2, va_rf (some (sv + 22))), (3, .int meeting_), (4, .int day_)]) X dL_areAsked_134 (by rw [hN]; decide) (fun _ => rfl))) fun open_57 =>
  (KSB_let (kX (L_iconst (v := I (-1)) X dL_areAsked_136 (by decide))) (kS (S_istore (ev := fun last_58 => [(7, .int last_58), (6, .int open_57), (5, .int s54.1), (0, va_rf (some sv)), (1, va_rf (some (sv + 20))), (2, va_rf (some (sv + 22))), (3, .int meeting_), (4, .int day_)]) X dL_areAsked_137 (by rw [hN]; decide) (fun _ => rfl))) fun last_58 =>
  (KSB_let (kX (L_iconst (v := I 0) X dL_areAsked_139 (by decide))) (kS (S_istore (ev := fun k_59 => [(8, .int k_59), (7, .int last_58), (6, .int open_57), (5, .int s54.1), (0, va_rf (some sv)), (1, va_rf (some (sv + 20))), (2, va_rf (some (sv + 22))), (3, .int meeting_), (4, .int day_)]) X dL_areAsked_140 (by rw [hN]; decide) (fun _ => rfl))) fun k_59 =>
  (KSB_seq (KST_loop (σ := Int32 × Int32 × Int32) (upd := (fun (s : Int32 × Int32 × Int32) => [(8, .int s.2.2), (7, .int s.2.1), (6, .int open_57), (5, .int s.1), (0, va_rf (some sv)), (1, va_rf (some (sv + 20))), (2, va_rf (some (sv + 22))), (3, .int meeting_), (4, .int day_)])) (s0 := (s54.1, last_58, k_59)) (n := 151) (fun L a b h => GL_sub [0, 1, 2, 3, 4, 5, 6, 7, 8] rfl h)
  (fun s60 => (KCE_and (KCE_2 wI (kX (L_iload (x := s60.2.2) 0 X dL_areAsked_142 rfl)) (kX (L_iload (x := open_57) 2 X dL_areAsked_144 rfl)) (kF2 (C_lt_F X dL_areAsked_146 (by decide)))) (KCE_1 (kX (L_iload (x := s60.1) 3 X dL_areAsked_149 rfl)) (kF1 (Z_ne_F X dL_areAsked_151 (by decide))))))
  (fun s60 => (KST_post (KST_let (KXE_3 (pB := pI) wR wI (kX (L_aload_n (r := (some sv)) 4 X dL_areAsked_154 rfl rfl)) (kX (L_iload_n (x := meeting_) 7 X dL_areAsked_155 rfl rfl)) (kX (L_iload (x := s60.2.2) 0 X dL_areAsked_156 rfl)) (fun v0 v1 v2 st L a b hd hc hs h => by obtain ⟨rfl, h1⟩ := lgo_of h; exact k_callH (st := st) X htr (E_L_proposalAt sv v1 v2) lkh_proposalAt stl_proposalAt ml_L_184 rfl (by rw [hR]; exact ⟨Nat.le_of_ble_eq_true rfl, Nat.le_of_ble_eq_true rfl⟩) (Nat.le_trans hd (by decide)) ⟨hc, hs⟩ dL_areAsked_158 h1)) (kS (S_istore (ev := fun message_68 => [(9, .int message_68), (8, .int s60.2.2), (7, .int s60.2.1), (6, .int open_57), (5, .int s60.1), (0, va_rf (some sv)), (1, va_rf (some (sv + 20))), (2, va_rf (some (sv + 22))), (3, .int meeting_), (4, .int day_)]) X dL_areAsked_161 (by rw [hN]; decide) (fun _ => rfl))) fun message_68 =>
  (KST_let (KXE_b2i (KCE_and (KCE_and (KCE_and (KCE_2 wI (kX (L_iload (x := message_68) 0 X dL_areAsked_163 rfl)) (kX (L_iload (x := s60.2.1) 2 X dL_areAsked_165 rfl)) (kF2 (C_gt_F X dL_areAsked_167 (by decide)))) (KCE_2 wI (kX (L_iload (x := message_68) 0 X dL_areAsked_170 rfl)) (KXE_2 wR (kX (L_aload_n (r := (some (sv + 22))) 7 X dL_areAsked_172 rfl rfl)) (kX (L_iconst (v := I 1) X dL_areAsked_173 (by decide))) (kai X dL_areAsked_174)) (kF2 (C_lt_F X dL_areAsked_175 (by decide))))) (KCE_2 wI (KXE_2 (pB := pI) wR (kX (L_aload_n (r := (some sv)) 5 X dL_areAsked_178 rfl rfl)) (kX (L_iload (x := message_68) 0 X dL_areAsked_179 rfl)) (fun v0 v1 st L a b hd hc hs h => by obtain ⟨rfl, h1⟩ := lgo_of h; exact k_callH (st := st) X htr (E_L_kindOf sv v1) lkh_kindOf stl_kindOf ml_L_186 rfl (by rw [hR]; exact ⟨Nat.le_of_ble_eq_true rfl, Nat.le_of_ble_eq_true rfl⟩) (Nat.le_trans hd (by decide)) ⟨hc, hs⟩ dL_areAsked_181 h1)) (kX (L_iconst (v := I 2) X dL_areAsked_184 (by decide))) (kF2 (C_eq_F X dL_areAsked_185 (by decide))))) (KCE_2 wI (KXE_2 (pB := pI) wR (kX (L_aload_n (r := (some sv)) 5 X dL_areAsked_188 rfl rfl)) (kX (L_iload (x := message_68) 0 X dL_areAsked_189 rfl)) (fun v0 v1 st L a b hd hc hs h => by obtain ⟨rfl, h1⟩ := lgo_of h; exact k_callH (st := st) X htr (E_L_receiver sv v1) lkh_receiver stl_receiver ml_L_188 rfl (by rw [hR]; exact ⟨Nat.le_of_ble_eq_true rfl, Nat.le_of_ble_eq_true rfl⟩) (Nat.le_trans hd (by decide)) ⟨hc, hs⟩ dL_areAsked_191 h1)) (KXE_2 wI (KXE_2 wR (kX (L_aload_n (r := (some (sv + 20))) 6 X dL_areAsked_194 rfl rfl)) (kX (L_iload_n (x := meeting_) 8 X dL_areAsked_195 rfl rfl)) (kai X dL_areAsked_196)) (kX (L_bipush (v := I 8) X dL_areAsked_197 (by decide))) (krem X dL_areAsked_199)) (kF2 (C_eq_F X dL_areAsked_200 (by decide))))) (kB (S_b1 X dL_areAsked_203 dL_areAsked_204 (by decide))) (kB (S_b0 X dL_areAsked_207))) (kS (S_istore (ev := fun is_91 => [(5, .int is_91), (9, .int message_68), (8, .int s60.2.2), (7, .int s60.2.1), (6, .int open_57), (0, va_rf (some sv)), (1, va_rf (some (sv + 20))), (2, va_rf (some (sv + 22))), (3, .int meeting_), (4, .int day_)]) X dL_areAsked_208 (by rw [hN]; decide) (fun _ => rfl))) fun is_91 =>
  (KST_let (kX (L_iload (x := message_68) 1 X dL_areAsked_210 rfl)) (kS (S_istore (ev := fun last_92 => [(7, .int last_92), (5, .int is_91), (9, .int message_68), (8, .int s60.2.2), (6, .int open_57), (0, va_rf (some sv)), (1, va_rf (some (sv + 20))), (2, va_rf (some (sv + 22))), (3, .int meeting_), (4, .int day_)]) X dL_areAsked_212 (by rw [hN]; decide) (fun _ => rfl))) fun last_92 =>
  (KST_pre (env' := [(8, .int (s60.2.2 + 1)), (7, .int last_92), (5, .int is_91), (9, .int message_68), (6, .int open_57), (0, va_rf (some sv)), (1, va_rf (some (sv + 20))), (2, va_rf (some (sv + 22))), (3, .int meeting_), (4, .int day_)]) (kP (S_iinc 3 X dL_areAsked_214 rfl rfl (by rw [hN]; decide) rfl))
  (KST_done (upd := (fun (s : Int32 × Int32 × Int32) => [(8, .int s.2.2), (7, .int s.2.1), (6, .int open_57), (5, .int s.1), (0, va_rf (some sv)), (1, va_rf (some (sv + 20))), (2, va_rf (some (sv + 22))), (3, .int meeting_), (4, .int day_)])) (s := (is_91, last_92, (s60.2.2 + 1))) [0, 1, 4, 2, 5, 6, 7, 8, 9] rfl))))) fun _ L a b h => kJ (S_goto X dL_areAsked_217 (by decide)) [] L a b h))) fun s93 =>
  (kretZ X C hr dL_areAsked_280 (KXE_b2i (KCE_and (KCE_and (KCE_and (KCE_and (KCE_1 (kX (L_iload (x := s93.1) 3 X dL_areAsked_220 rfl)) (kF1 (Z_ne_F X dL_areAsked_222 (by decide)))) (KCE_1 (kX (L_iload (x := open_57) 2 X dL_areAsked_225 rfl)) (kF1 (Z_ge_F X dL_areAsked_227 (by decide))))) (KCE_or (KCE_2 wI (KXE_2 wR (kX (L_aload_n (r := (some (sv + 20))) 5 X dL_areAsked_230 rfl rfl)) (kX (L_iload_n (x := meeting_) 7 X dL_areAsked_231 rfl rfl)) (kai X dL_areAsked_232)) (kX (L_sipush (v := I 4096) X dL_areAsked_233 (by decide))) (kF2 (C_lt_T X dL_areAsked_236 (by decide)))) (KCE_and (KCE_1 (kX (L_iload (x := open_57) 2 X dL_areAsked_239 rfl)) (kF1 (Z_eq_F X dL_areAsked_241 (by decide)))) (KCE_1 (KXE_2 (pB := pI) wR (kX (L_aload_n (r := (some sv)) 4 X dL_areAsked_244 rfl rfl)) (kX (L_iload_n (x := meeting_) 7 X dL_areAsked_245 rfl rfl)) (fun v0 v1 st L a b hd hc hs h => by obtain ⟨rfl, h1⟩ := lgo_of h; exact k_callH (st := st) X htr (E_L_agrees sv v1) lkh_agrees stl_agrees ml_L_190 rfl (by rw [hR]; exact ⟨Nat.le_of_ble_eq_true rfl, Nat.le_of_ble_eq_true rfl⟩) (Nat.le_trans hd (by decide)) ⟨hc, hs⟩ dL_areAsked_246 h1)) (kF1 (Z_eq_F X dL_areAsked_249 (by decide))))))) (KCE_2 wI (KXE_3 (pB := pI) wR wI (kX (L_aload_n (r := (some sv)) 4 X dL_areAsked_252 rfl rfl)) (kX (L_iload_n (x := meeting_) 7 X dL_areAsked_253 rfl rfl)) (kX (L_iload (x := open_57) 2 X dL_areAsked_254 rfl)) (fun v0 v1 v2 st L a b hd hc hs h => by obtain ⟨rfl, h1⟩ := lgo_of h; exact k_callH (st := st) X htr (E_L_proposalAt sv v1 v2) lkh_proposalAt stl_proposalAt ml_L_184 rfl (by rw [hR]; exact ⟨Nat.le_of_ble_eq_true rfl, Nat.le_of_ble_eq_true rfl⟩) (Nat.le_trans hd (by decide)) ⟨hc, hs⟩ dL_areAsked_256 h1)) (kX (L_ldc (v := I (-1000001)) X dL_areAsked_259 kd_L_18)) (kF2 (C_eq_F X dL_areAsked_261 (by decide))))) (KCE_2 wI (KXE_3 (pB := pI) wR wI (kX (L_aload_n (r := (some sv)) 4 X dL_areAsked_264 rfl rfl)) (kX (L_iload_n (x := meeting_) 7 X dL_areAsked_265 rfl rfl)) (kX (L_iconst (v := I (-1)) X dL_areAsked_266 (by decide))) (fun v0 v1 v2 st L a b hd hc hs h => by obtain ⟨rfl, h1⟩ := lgo_of h; exact k_callH (st := st) X htr (E_L_proposalAt sv v1 v2) lkh_proposalAt stl_proposalAt ml_L_184 rfl (by rw [hR]; exact ⟨Nat.le_of_ble_eq_true rfl, Nat.le_of_ble_eq_true rfl⟩) (Nat.le_trans hd (by decide)) ⟨hc, hs⟩ dL_areAsked_267 h1)) (kX (L_ldc (v := I (-1000001)) X dL_areAsked_270 kd_L_18)) (kF2 (C_eq_F X dL_areAsked_272 (by decide))))) (kB (S_b1 X dL_areAsked_275 dL_areAsked_276 (by decide))) (kB (S_b0 X dL_areAsked_279))))))))))) h0 (by rw [hR]; exact Nat.le_of_ble_eq_true rfl) (by rw [hR]; exact Nat.le_of_ble_eq_true rfl)
