/-! the law's larger methods: computations over its state, and their contracts -/
theorem dL_isFree_0 : decode cL_isFree 0 = .ok (.aload_n 0, 1) := by decide +kernel
theorem dL_isFree_1 : decode cL_isFree 1 = .ok (.iload_n 1, 1) := by decide +kernel
theorem dL_isFree_2 : decode cL_isFree 2 = .ok (.iload_n 2, 1) := by decide +kernel
theorem dL_isFree_3 : decode cL_isFree 3 = .ok (.iload_n 3, 1) := by decide +kernel
theorem dL_isFree_4 : decode cL_isFree 4 = .ok (.invokestatic 192, 3) := by decide +kernel
theorem dL_isFree_7 : decode cL_isFree 7 = .ok (.istore 4, 2) := by decide +kernel
theorem dL_isFree_9 : decode cL_isFree 9 = .ok (.iload 4, 2) := by decide +kernel
theorem dL_isFree_11 : decode cL_isFree 11 = .ok (.iload_n 2, 1) := by decide +kernel
theorem dL_isFree_12 : decode cL_isFree 12 = .ok (.if_icmp .lt 19, 3) := by decide +kernel
theorem dL_isFree_15 : decode cL_isFree 15 = .ok (.iload 4, 2) := by decide +kernel
theorem dL_isFree_17 : decode cL_isFree 17 = .ok (.aload_n 0, 1) := by decide +kernel
theorem dL_isFree_18 : decode cL_isFree 18 = .ok (.iload_n 1, 1) := by decide +kernel
theorem dL_isFree_19 : decode cL_isFree 19 = .ok (.iload_n 2, 1) := by decide +kernel
theorem dL_isFree_20 : decode cL_isFree 20 = .ok (.iload_n 3, 1) := by decide +kernel
theorem dL_isFree_21 : decode cL_isFree 21 = .ok (.invokestatic 194, 3) := by decide +kernel
theorem dL_isFree_24 : decode cL_isFree 24 = .ok (.if_icmp .ne 7, 3) := by decide +kernel
theorem dL_isFree_27 : decode cL_isFree 27 = .ok (.iconst 1, 1) := by decide +kernel
theorem dL_isFree_28 : decode cL_isFree 28 = .ok (.goto 4, 3) := by decide +kernel
theorem dL_isFree_31 : decode cL_isFree 31 = .ok (.iconst 0, 1) := by decide +kernel
theorem dL_isFree_32 : decode cL_isFree 32 = .ok (.istore 5, 2) := by decide +kernel
theorem dL_isFree_34 : decode cL_isFree 34 = .ok (.iconst 0, 1) := by decide +kernel
theorem dL_isFree_35 : decode cL_isFree 35 = .ok (.istore 6, 2) := by decide +kernel
theorem dL_isFree_37 : decode cL_isFree 37 = .ok (.iconst 0, 1) := by decide +kernel
theorem dL_isFree_38 : decode cL_isFree 38 = .ok (.istore 7, 2) := by decide +kernel
theorem dL_isFree_40 : decode cL_isFree 40 = .ok (.iload 7, 2) := by decide +kernel
theorem dL_isFree_42 : decode cL_isFree 42 = .ok (.iconst 5, 1) := by decide +kernel
theorem dL_isFree_43 : decode cL_isFree 43 = .ok (.if_icmp .ge 129, 3) := by decide +kernel
theorem dL_isFree_46 : decode cL_isFree 46 = .ok (.iload 5, 2) := by decide +kernel
theorem dL_isFree_48 : decode cL_isFree 48 = .ok (.ifCond .eq 124, 3) := by decide +kernel
theorem dL_isFree_51 : decode cL_isFree 51 = .ok (.iconst 0, 1) := by decide +kernel
theorem dL_isFree_52 : decode cL_isFree 52 = .ok (.istore 8, 2) := by decide +kernel
theorem dL_isFree_54 : decode cL_isFree 54 = .ok (.iload 8, 2) := by decide +kernel
theorem dL_isFree_56 : decode cL_isFree 56 = .ok (.iload_n 3, 1) := by decide +kernel
theorem dL_isFree_57 : decode cL_isFree 57 = .ok (.if_icmp .ge 109, 3) := by decide +kernel
theorem dL_isFree_60 : decode cL_isFree 60 = .ok (.iload_n 1, 1) := by decide +kernel
theorem dL_isFree_61 : decode cL_isFree 61 = .ok (.iload 7, 2) := by decide +kernel
theorem dL_isFree_63 : decode cL_isFree 63 = .ok (.ishr, 1) := by decide +kernel
theorem dL_isFree_64 : decode cL_isFree 64 = .ok (.iconst 1, 1) := by decide +kernel
theorem dL_isFree_65 : decode cL_isFree 65 = .ok (.iand, 1) := by decide +kernel
theorem dL_isFree_66 : decode cL_isFree 66 = .ok (.iconst 1, 1) := by decide +kernel
theorem dL_isFree_67 : decode cL_isFree 67 = .ok (.if_icmp .ne 99, 3) := by decide +kernel
theorem dL_isFree_70 : decode cL_isFree 70 = .ok (.iload 5, 2) := by decide +kernel
theorem dL_isFree_72 : decode cL_isFree 72 = .ok (.ifCond .eq 33, 3) := by decide +kernel
theorem dL_isFree_75 : decode cL_isFree 75 = .ok (.iload 4, 2) := by decide +kernel
theorem dL_isFree_77 : decode cL_isFree 77 = .ok (.iload 8, 2) := by decide +kernel
theorem dL_isFree_79 : decode cL_isFree 79 = .ok (.iadd, 1) := by decide +kernel
theorem dL_isFree_80 : decode cL_isFree 80 = .ok (.sipush 1600, 3) := by decide +kernel
theorem dL_isFree_83 : decode cL_isFree 83 = .ok (.if_icmp .gt 18, 3) := by decide +kernel
theorem dL_isFree_86 : decode cL_isFree 86 = .ok (.aload_n 0, 1) := by decide +kernel
theorem dL_isFree_87 : decode cL_isFree 87 = .ok (.iload 7, 2) := by decide +kernel
theorem dL_isFree_89 : decode cL_isFree 89 = .ok (.iload 4, 2) := by decide +kernel
theorem dL_isFree_91 : decode cL_isFree 91 = .ok (.iload 8, 2) := by decide +kernel
theorem dL_isFree_93 : decode cL_isFree 93 = .ok (.iadd, 1) := by decide +kernel
theorem dL_isFree_94 : decode cL_isFree 94 = .ok (.invokestatic 173, 3) := by decide +kernel
theorem dL_isFree_97 : decode cL_isFree 97 = .ok (.iconst 2, 1) := by decide +kernel
theorem dL_isFree_98 : decode cL_isFree 98 = .ok (.if_icmp .ge 7, 3) := by decide +kernel
theorem dL_isFree_101 : decode cL_isFree 101 = .ok (.iconst 1, 1) := by decide +kernel
theorem dL_isFree_102 : decode cL_isFree 102 = .ok (.goto 4, 3) := by decide +kernel
theorem dL_isFree_105 : decode cL_isFree 105 = .ok (.iconst 0, 1) := by decide +kernel
theorem dL_isFree_106 : decode cL_isFree 106 = .ok (.istore 5, 2) := by decide +kernel
theorem dL_isFree_108 : decode cL_isFree 108 = .ok (.iload 6, 2) := by decide +kernel
theorem dL_isFree_110 : decode cL_isFree 110 = .ok (.ifCond .ne 43, 3) := by decide +kernel
theorem dL_isFree_113 : decode cL_isFree 113 = .ok (.iload 4, 2) := by decide +kernel
theorem dL_isFree_115 : decode cL_isFree 115 = .ok (.iload 8, 2) := by decide +kernel
theorem dL_isFree_117 : decode cL_isFree 117 = .ok (.iadd, 1) := by decide +kernel
theorem dL_isFree_118 : decode cL_isFree 118 = .ok (.iconst 1, 1) := by decide +kernel
theorem dL_isFree_119 : decode cL_isFree 119 = .ok (.isub, 1) := by decide +kernel
theorem dL_isFree_120 : decode cL_isFree 120 = .ok (.sipush 1600, 3) := by decide +kernel
theorem dL_isFree_123 : decode cL_isFree 123 = .ok (.if_icmp .gt 34, 3) := by decide +kernel
theorem dL_isFree_126 : decode cL_isFree 126 = .ok (.iload 4, 2) := by decide +kernel
theorem dL_isFree_128 : decode cL_isFree 128 = .ok (.iload 8, 2) := by decide +kernel
theorem dL_isFree_130 : decode cL_isFree 130 = .ok (.iadd, 1) := by decide +kernel
theorem dL_isFree_131 : decode cL_isFree 131 = .ok (.bipush (-48), 2) := by decide +kernel
theorem dL_isFree_133 : decode cL_isFree 133 = .ok (.if_icmp .le 24, 3) := by decide +kernel
theorem dL_isFree_136 : decode cL_isFree 136 = .ok (.aload_n 0, 1) := by decide +kernel
theorem dL_isFree_137 : decode cL_isFree 137 = .ok (.iload 7, 2) := by decide +kernel
theorem dL_isFree_139 : decode cL_isFree 139 = .ok (.iload 4, 2) := by decide +kernel
theorem dL_isFree_141 : decode cL_isFree 141 = .ok (.iload 8, 2) := by decide +kernel
theorem dL_isFree_143 : decode cL_isFree 143 = .ok (.iadd, 1) := by decide +kernel
theorem dL_isFree_144 : decode cL_isFree 144 = .ok (.iconst 1, 1) := by decide +kernel
theorem dL_isFree_145 : decode cL_isFree 145 = .ok (.isub, 1) := by decide +kernel
theorem dL_isFree_146 : decode cL_isFree 146 = .ok (.invokestatic 173, 3) := by decide +kernel
theorem dL_isFree_149 : decode cL_isFree 149 = .ok (.iconst 2, 1) := by decide +kernel
theorem dL_isFree_150 : decode cL_isFree 150 = .ok (.if_icmp .ne 7, 3) := by decide +kernel
theorem dL_isFree_153 : decode cL_isFree 153 = .ok (.iconst 1, 1) := by decide +kernel
theorem dL_isFree_154 : decode cL_isFree 154 = .ok (.goto 4, 3) := by decide +kernel
theorem dL_isFree_157 : decode cL_isFree 157 = .ok (.iconst 0, 1) := by decide +kernel
theorem dL_isFree_158 : decode cL_isFree 158 = .ok (.istore 6, 2) := by decide +kernel
theorem dL_isFree_160 : decode cL_isFree 160 = .ok (.iinc 8 1, 3) := by decide +kernel
theorem dL_isFree_163 : decode cL_isFree 163 = .ok (.goto (-109), 3) := by decide +kernel
theorem dL_isFree_166 : decode cL_isFree 166 = .ok (.iinc 7 1, 3) := by decide +kernel
theorem dL_isFree_169 : decode cL_isFree 169 = .ok (.goto (-129), 3) := by decide +kernel
theorem dL_isFree_172 : decode cL_isFree 172 = .ok (.iload 5, 2) := by decide +kernel
theorem dL_isFree_174 : decode cL_isFree 174 = .ok (.ifCond .eq 102, 3) := by decide +kernel
theorem dL_isFree_177 : decode cL_isFree 177 = .ok (.iload 4, 2) := by decide +kernel
theorem dL_isFree_179 : decode cL_isFree 179 = .ok (.iload_n 2, 1) := by decide +kernel
theorem dL_isFree_180 : decode cL_isFree 180 = .ok (.if_icmp .eq 16, 3) := by decide +kernel
theorem dL_isFree_183 : decode cL_isFree 183 = .ok (.iload 6, 2) := by decide +kernel
theorem dL_isFree_185 : decode cL_isFree 185 = .ok (.ifCond .ne 11, 3) := by decide +kernel
theorem dL_isFree_188 : decode cL_isFree 188 = .ok (.iload 4, 2) := by decide +kernel
theorem dL_isFree_190 : decode cL_isFree 190 = .ok (.sipush 1500, 3) := by decide +kernel
theorem dL_isFree_193 : decode cL_isFree 193 = .ok (.if_icmp .le 83, 3) := by decide +kernel
theorem dL_isFree_196 : decode cL_isFree 196 = .ok (.aload_n 0, 1) := by decide +kernel
theorem dL_isFree_197 : decode cL_isFree 197 = .ok (.iconst 0, 1) := by decide +kernel
theorem dL_isFree_198 : decode cL_isFree 198 = .ok (.iconst 0, 1) := by decide +kernel
theorem dL_isFree_199 : decode cL_isFree 199 = .ok (.iconst 1, 1) := by decide +kernel
theorem dL_isFree_200 : decode cL_isFree 200 = .ok (.invokestatic 192, 3) := by decide +kernel
theorem dL_isFree_203 : decode cL_isFree 203 = .ok (.ldc 21, 2) := by decide +kernel
theorem dL_isFree_205 : decode cL_isFree 205 = .ok (.if_icmp .ne 71, 3) := by decide +kernel
theorem dL_isFree_208 : decode cL_isFree 208 = .ok (.aload_n 0, 1) := by decide +kernel
theorem dL_isFree_209 : decode cL_isFree 209 = .ok (.bipush 32, 2) := by decide +kernel
theorem dL_isFree_211 : decode cL_isFree 211 = .ok (.iconst 0, 1) := by decide +kernel
theorem dL_isFree_212 : decode cL_isFree 212 = .ok (.iconst 1, 1) := by decide +kernel
theorem dL_isFree_213 : decode cL_isFree 213 = .ok (.invokestatic 192, 3) := by decide +kernel
theorem dL_isFree_216 : decode cL_isFree 216 = .ok (.ldc 21, 2) := by decide +kernel
theorem dL_isFree_218 : decode cL_isFree 218 = .ok (.if_icmp .ne 58, 3) := by decide +kernel
theorem dL_isFree_221 : decode cL_isFree 221 = .ok (.aload_n 0, 1) := by decide +kernel
theorem dL_isFree_222 : decode cL_isFree 222 = .ok (.iconst 1, 1) := by decide +kernel
theorem dL_isFree_223 : decode cL_isFree 223 = .ok (.sipush 1501, 3) := by decide +kernel
theorem dL_isFree_226 : decode cL_isFree 226 = .ok (.iconst 1, 1) := by decide +kernel
theorem dL_isFree_227 : decode cL_isFree 227 = .ok (.invokestatic 192, 3) := by decide +kernel
theorem dL_isFree_230 : decode cL_isFree 230 = .ok (.ldc 21, 2) := by decide +kernel
theorem dL_isFree_232 : decode cL_isFree 232 = .ok (.if_icmp .ne 44, 3) := by decide +kernel
theorem dL_isFree_235 : decode cL_isFree 235 = .ok (.aload_n 0, 1) := by decide +kernel
theorem dL_isFree_236 : decode cL_isFree 236 = .ok (.iconst 1, 1) := by decide +kernel
theorem dL_isFree_237 : decode cL_isFree 237 = .ok (.iconst 0, 1) := by decide +kernel
theorem dL_isFree_238 : decode cL_isFree 238 = .ok (.bipush 49, 2) := by decide +kernel
theorem dL_isFree_240 : decode cL_isFree 240 = .ok (.invokestatic 194, 3) := by decide +kernel
theorem dL_isFree_243 : decode cL_isFree 243 = .ok (.ldc 21, 2) := by decide +kernel
theorem dL_isFree_245 : decode cL_isFree 245 = .ok (.if_icmp .ne 31, 3) := by decide +kernel
theorem dL_isFree_248 : decode cL_isFree 248 = .ok (.aload_n 0, 1) := by decide +kernel
theorem dL_isFree_249 : decode cL_isFree 249 = .ok (.iconst 5, 1) := by decide +kernel
theorem dL_isFree_250 : decode cL_isFree 250 = .ok (.iconst 0, 1) := by decide +kernel
theorem dL_isFree_251 : decode cL_isFree 251 = .ok (.invokestatic 173, 3) := by decide +kernel
theorem dL_isFree_254 : decode cL_isFree 254 = .ok (.ldc 18, 2) := by decide +kernel
theorem dL_isFree_256 : decode cL_isFree 256 = .ok (.if_icmp .ne 20, 3) := by decide +kernel
theorem dL_isFree_259 : decode cL_isFree 259 = .ok (.aload_n 0, 1) := by decide +kernel
theorem dL_isFree_260 : decode cL_isFree 260 = .ok (.iconst 0, 1) := by decide +kernel
theorem dL_isFree_261 : decode cL_isFree 261 = .ok (.sipush 1601, 3) := by decide +kernel
theorem dL_isFree_264 : decode cL_isFree 264 = .ok (.invokestatic 173, 3) := by decide +kernel
theorem dL_isFree_267 : decode cL_isFree 267 = .ok (.ldc 21, 2) := by decide +kernel
theorem dL_isFree_269 : decode cL_isFree 269 = .ok (.if_icmp .ne 7, 3) := by decide +kernel
theorem dL_isFree_272 : decode cL_isFree 272 = .ok (.iconst 1, 1) := by decide +kernel
theorem dL_isFree_273 : decode cL_isFree 273 = .ok (.goto 4, 3) := by decide +kernel
theorem dL_isFree_276 : decode cL_isFree 276 = .ok (.iconst 0, 1) := by decide +kernel
theorem dL_isFree_277 : decode cL_isFree 277 = .ok (.ireturn, 1) := by decide +kernel
theorem lk_L_isFree : LK yL_isFree cL_isFree 9 (some .boolean) 4 := ⟨qW_at 593 (by decide +kernel) rfl, qW_at 28 (by decide +kernel) rfl, by decide, by decide, by decide +kernel⟩
theorem st_L_isFree : Cond.static yL_isFree ∈ qW := qW_at 592 (by decide +kernel) rfl
noncomputable def F_L_isFree (sv : Nat) (people_ from_ length_ : Int32) : LX Int32 :=
  (lb (lb (lp (some sv)) fun v1 => lb (lp people_) fun v2 => lb (lp from_) fun v3 => lb (lp length_) fun v4 => lgo v1 sv (w_firstFree v2 v3 v4)) fun free_5 =>
  (lb (lb (lb (lb (lp free_5) fun v6 => lb (lp from_) fun v7 => lp (decide (v7 ≤ v6))) fun v14 => if v14 then (lb (lp free_5) fun v8 => lb (lb (lp (some sv)) fun v9 => lb (lp people_) fun v10 => lb (lp from_) fun v11 => lb (lp length_) fun v12 => lgo v9 sv (w_firstFreeByHours v10 v11 v12)) fun v13 => lp (decide (v8 = v13))) else lp false) fun v15 => lp (b2i v15)) fun is_16 =>
  (lb (lp (I 0)) fun ahead_17 =>
  (lb (lp (I 0)) fun person_18 =>
  (lb (ll 6 (fun (s19 : Int32 × Int32 × Int32) => (lb (lb (lp s19.2.2) fun v20 => lb (lp (I 5)) fun v21 => lp (decide (v20 < v21))) fun v23 => if v23 then (lb (lp s19.1) fun v22 => lp (decide (¬ v22 = 0))) else lp false)) (fun (s19 : Int32 × Int32 × Int32) =>
  (lb (lp (I 0)) fun k_24 =>
  (lb (ll 13 (fun (s25 : Int32 × Int32 × Int32) => (lb (lb (lp s25.2.2) fun v26 => lb (lp length_) fun v27 => lp (decide (v26 < v27))) fun v34 => if v34 then (lb (lb (lb (lp people_) fun v28 => lb (lp s19.2.2) fun v29 => (lp (v28 >>> (v29 &&& 31)))) fun v30 => lb (lp (I 1)) fun v31 => (lp (v30 &&& v31))) fun v32 => lb (lp (I 1)) fun v33 => lp (decide (v32 = v33))) else lp false)) (fun (s25 : Int32 × Int32 × Int32) =>
  (lb (lb (lb (lb (lp s25.1) fun v35 => lp (decide (¬ v35 = 0))) fun v48 => if v48 then (lb (lb (lb (lp free_5) fun v36 => lb (lp s25.2.2) fun v37 => (lp (v36 + v37))) fun v38 => lb (lp (I 1600)) fun v39 => lp (decide (v39 < v38))) fun v47 => if v47 then lp true else (lb (lb (lp (some sv)) fun v42 => lb (lp s19.2.2) fun v43 => lb (lb (lp free_5) fun v40 => lb (lp s25.2.2) fun v41 => (lp (v40 + v41))) fun v44 => lgo v42 sv (w_rank v43 v44)) fun v45 => lb (lp (I 2)) fun v46 => lp (decide (v45 < v46)))) else lp false) fun v49 => lp (b2i v49)) fun is_50 =>
  (lb (lb (lb (lb (lp s25.2.1) fun v51 => lp (decide (¬ v51 = 0))) fun v73 => if v73 then lp true else (lb (lb (lb (lb (lb (lp free_5) fun v52 => lb (lp s25.2.2) fun v53 => (lp (v52 + v53))) fun v54 => lb (lp (I 1)) fun v55 => (lp (v54 - v55))) fun v56 => lb (lp (I 1600)) fun v57 => lp (decide (v56 ≤ v57))) fun v62 => if v62 then (lb (lb (lp free_5) fun v58 => lb (lp s25.2.2) fun v59 => (lp (v58 + v59))) fun v60 => lb (lp (I (-48))) fun v61 => lp (decide (v61 < v60))) else lp false) fun v72 => if v72 then (lb (lb (lp (some sv)) fun v67 => lb (lp s19.2.2) fun v68 => lb (lb (lb (lp free_5) fun v63 => lb (lp s25.2.2) fun v64 => (lp (v63 + v64))) fun v65 => lb (lp (I 1)) fun v66 => (lp (v65 - v66))) fun v69 => lgo v67 sv (w_rank v68 v69)) fun v70 => lb (lp (I 2)) fun v71 => lp (decide (v70 = v71))) else lp false)) fun v74 => lp (b2i v74)) fun ahead_75 =>
  (lp (is_50, ahead_75, (s25.2.2 + 1)))))) (s19.1, s19.2.1, k_24)) fun s76 =>
  (lp (s76.1, s76.2.1, (s19.2.2 + 1)))))) (is_16, ahead_17, person_18)) fun s77 =>
  (lb (lb (lb (lb (lb (lb (lb (lb (lb (lb (lp s77.1) fun v78 => lp (decide (¬ v78 = 0))) fun v86 => if v86 then (lb (lb (lb (lp free_5) fun v79 => lb (lp from_) fun v80 => lp (decide (v79 = v80))) fun v82 => if v82 then lp true else (lb (lp s77.2.1) fun v81 => lp (decide (¬ v81 = 0)))) fun v85 => if v85 then lp true else (lb (lp free_5) fun v83 => lb (lp (I 1500)) fun v84 => lp (decide (v84 < v83)))) else lp false) fun v93 => if v93 then (lb (lb (lp (some sv)) fun v87 => lb (lp (I 0)) fun v88 => lb (lp (I 0)) fun v89 => lb (lp (I 1)) fun v90 => lgo v87 sv (w_firstFree v88 v89 v90)) fun v91 => lb (lp (I (-1000002))) fun v92 => lp (decide (v91 = v92))) else lp false) fun v100 => if v100 then (lb (lb (lp (some sv)) fun v94 => lb (lp (I 32)) fun v95 => lb (lp (I 0)) fun v96 => lb (lp (I 1)) fun v97 => lgo v94 sv (w_firstFree v95 v96 v97)) fun v98 => lb (lp (I (-1000002))) fun v99 => lp (decide (v98 = v99))) else lp false) fun v107 => if v107 then (lb (lb (lp (some sv)) fun v101 => lb (lp (I 1)) fun v102 => lb (lp (I 1501)) fun v103 => lb (lp (I 1)) fun v104 => lgo v101 sv (w_firstFree v102 v103 v104)) fun v105 => lb (lp (I (-1000002))) fun v106 => lp (decide (v105 = v106))) else lp false) fun v114 => if v114 then (lb (lb (lp (some sv)) fun v108 => lb (lp (I 1)) fun v109 => lb (lp (I 0)) fun v110 => lb (lp (I 49)) fun v111 => lgo v108 sv (w_firstFreeByHours v109 v110 v111)) fun v112 => lb (lp (I (-1000002))) fun v113 => lp (decide (v112 = v113))) else lp false) fun v120 => if v120 then (lb (lb (lp (some sv)) fun v115 => lb (lp (I 5)) fun v116 => lb (lp (I 0)) fun v117 => lgo v115 sv (w_rank v116 v117)) fun v118 => lb (lp (I (-1000001))) fun v119 => lp (decide (v118 = v119))) else lp false) fun v126 => if v126 then (lb (lb (lp (some sv)) fun v121 => lb (lp (I 0)) fun v122 => lb (lp (I 1601)) fun v123 => lgo v121 sv (w_rank v122 v123)) fun v124 => lb (lp (I (-1000002))) fun v125 => lp (decide (v124 = v125))) else lp false) fun v127 => lp (b2i v127)) lz))))))
set_option maxRecDepth 100000 in
set_option maxHeartbeats 4000000 in
theorem M_L_isFree (sv : Nat) (people_ from_ length_ : Int32) : LM yL_isFree cL_isFree 9 (some .boolean) 11 196 334 2004 [.ref sv, .int people_, .int from_, .int length_] sv (F_L_isFree sv people_ from_ length_) := by
  refine LM_of (env0 := [(0, va_rf (some sv)), (1, .int people_), (2, .int from_), (3, .int length_)]) (by decide) (by exact Nat.le_of_ble_eq_true rfl) rfl (fun k R X C hR hN hr L0 h0 => ?_)
  have X : CX k cL_isFree RL := X
  have htr := C.2.2.2.1
  unfold F_L_isFree at h0
  exact KSB_go (KSB_let (KXE_4 (pB := pI) wR wI wI (kX (L_aload_n (r := (some sv)) 0 X dL_isFree_0 rfl rfl)) (kX (L_iload_n (x := people_) 1 X dL_isFree_1 rfl rfl)) (kX (L_iload_n (x := from_) 2 X dL_isFree_2 rfl rfl)) (kX (L_iload_n (x := length_) 3 X dL_isFree_3 rfl rfl)) (fun v0 v1 v2 v3 st L a b hd hc hs h => by obtain ⟨rfl, h1⟩ := lgo_of h; exact k_callH (st := st) X htr (E_L_firstFree sv v1 v2 v3) lkh_firstFree stl_firstFree ml_L_192 rfl (by rw [hR]; exact ⟨Nat.le_of_ble_eq_true rfl, Nat.le_of_ble_eq_true rfl⟩) (Nat.le_trans hd (by decide)) ⟨hc, hs⟩ dL_isFree_4 h1)) (kS (S_istore (ev := fun free_5 => [(4, .int free_5), (0, va_rf (some sv)), (1, .int people_), (2, .int from_), (3, .int length_)]) X dL_isFree_7 (by rw [hN]; decide) (fun _ => rfl))) fun free_5 =>
  (KSB_let (KXE_b2i (KCE_and (KCE_2 wI (kX (L_iload (x := free_5) 0 X dL_isFree_9 rfl)) (kX (L_iload_n (x := from_) 3 X dL_isFree_11 rfl rfl)) (kF2 (C_ge_F X dL_isFree_12 (by decide)))) (KCE_2 wI (kX (L_iload (x := free_5) 0 X dL_isFree_15 rfl)) (KXE_4 (pB := pI) wR wI wI (kX (L_aload_n (r := (some sv)) 1 X dL_isFree_17 rfl rfl)) (kX (L_iload_n (x := people_) 2 X dL_isFree_18 rfl rfl)) (kX (L_iload_n (x := from_) 3 X dL_isFree_19 rfl rfl)) (kX (L_iload_n (x := length_) 4 X dL_isFree_20 rfl rfl)) (fun v0 v1 v2 v3 st L a b hd hc hs h => by obtain ⟨rfl, h1⟩ := lgo_of h; exact k_callH (st := st) X htr (E_L_firstFreeByHours sv v1 v2 v3) lkh_firstFreeByHours stl_firstFreeByHours ml_L_194 rfl (by rw [hR]; exact ⟨Nat.le_of_ble_eq_true rfl, Nat.le_of_ble_eq_true rfl⟩) (Nat.le_trans hd (by decide)) ⟨hc, hs⟩ dL_isFree_21 h1)) (kF2 (C_eq_F X dL_isFree_24 (by decide))))) (kB (S_b1 X dL_isFree_27 dL_isFree_28 (by decide))) (kB (S_b0 X dL_isFree_31))) (kS (S_istore (ev := fun is_16 => [(5, .int is_16), (4, .int free_5), (0, va_rf (some sv)), (1, .int people_), (2, .int from_), (3, .int length_)]) X dL_isFree_32 (by rw [hN]; decide) (fun _ => rfl))) fun is_16 =>
  (KSB_let (kX (L_iconst (v := I 0) X dL_isFree_34 (by decide))) (kS (S_istore (ev := fun ahead_17 => [(6, .int ahead_17), (5, .int is_16), (4, .int free_5), (0, va_rf (some sv)), (1, .int people_), (2, .int from_), (3, .int length_)]) X dL_isFree_35 (by rw [hN]; decide) (fun _ => rfl))) fun ahead_17 =>
  (KSB_let (kX (L_iconst (v := I 0) X dL_isFree_37 (by decide))) (kS (S_istore (ev := fun person_18 => [(7, .int person_18), (6, .int ahead_17), (5, .int is_16), (4, .int free_5), (0, va_rf (some sv)), (1, .int people_), (2, .int from_), (3, .int length_)]) X dL_isFree_38 (by rw [hN]; decide) (fun _ => rfl))) fun person_18 =>
  (KSB_seq (KST_loop (σ := Int32 × Int32 × Int32) (upd := (fun (s : Int32 × Int32 × Int32) => [(7, .int s.2.2), (6, .int s.2.1), (5, .int s.1), (4, .int free_5), (0, va_rf (some sv)), (1, .int people_), (2, .int from_), (3, .int length_)])) (s0 := (is_16, ahead_17, person_18)) (n := 6) (fun L a b h => GL_sub [0, 1, 2, 3, 4, 5, 6, 7] rfl h)
  (fun s19 => (KCE_and (KCE_2 wI (kX (L_iload (x := s19.2.2) 0 X dL_isFree_40 rfl)) (kX (L_iconst (v := I 5) X dL_isFree_42 (by decide))) (kF2 (C_lt_F X dL_isFree_43 (by decide)))) (KCE_1 (kX (L_iload (x := s19.1) 2 X dL_isFree_46 rfl)) (kF1 (Z_ne_F X dL_isFree_48 (by decide))))))
  (fun s19 => (KST_post (KST_let (kX (L_iconst (v := I 0) X dL_isFree_51 (by decide))) (kS (S_istore (ev := fun k_24 => [(8, .int k_24), (7, .int s19.2.2), (6, .int s19.2.1), (5, .int s19.1), (4, .int free_5), (0, va_rf (some sv)), (1, .int people_), (2, .int from_), (3, .int length_)]) X dL_isFree_52 (by rw [hN]; decide) (fun _ => rfl))) fun k_24 =>
  (KST_seq (KST_loop (σ := Int32 × Int32 × Int32) (upd := (fun (s : Int32 × Int32 × Int32) => [(8, .int s.2.2), (7, .int s19.2.2), (6, .int s.2.1), (5, .int s.1), (4, .int free_5), (0, va_rf (some sv)), (1, .int people_), (2, .int from_), (3, .int length_)])) (s0 := (s19.1, s19.2.1, k_24)) (n := 13) (fun L a b h => GL_sub [0, 1, 2, 3, 4, 5, 6, 7, 8] rfl h)
  (fun s25 => (KCE_and (KCE_2 wI (kX (L_iload (x := s25.2.2) 0 X dL_isFree_54 rfl)) (kX (L_iload_n (x := length_) 8 X dL_isFree_56 rfl rfl)) (kF2 (C_lt_F X dL_isFree_57 (by decide)))) (KCE_2 wI (KXE_2 wI (KXE_2 wI (kX (L_iload_n (x := people_) 6 X dL_isFree_60 rfl rfl)) (kX (L_iload (x := s19.2.2) 1 X dL_isFree_61 rfl)) (k2 (O_ishr X dL_isFree_63))) (kX (L_iconst (v := I 1) X dL_isFree_64 (by decide))) (k2 (O_iand X dL_isFree_65))) (kX (L_iconst (v := I 1) X dL_isFree_66 (by decide))) (kF2 (C_eq_F X dL_isFree_67 (by decide))))))
  (fun s25 => (KST_post (KST_let (KXE_b2i (KCE_and (KCE_1 (kX (L_iload (x := s25.1) 3 X dL_isFree_70 rfl)) (kF1 (Z_ne_F X dL_isFree_72 (by decide)))) (KCE_or (KCE_2 wI (KXE_2 wI (kX (L_iload (x := free_5) 4 X dL_isFree_75 rfl)) (kX (L_iload (x := s25.2.2) 0 X dL_isFree_77 rfl)) (k2 (O_iadd X dL_isFree_79))) (kX (L_sipush (v := I 1600) X dL_isFree_80 (by decide))) (kF2 (C_gt_T X dL_isFree_83 (by decide)))) (KCE_2 wI (KXE_3 (pB := pI) wR wI (kX (L_aload_n (r := (some sv)) 5 X dL_isFree_86 rfl rfl)) (kX (L_iload (x := s19.2.2) 1 X dL_isFree_87 rfl)) (KXE_2 wI (kX (L_iload (x := free_5) 4 X dL_isFree_89 rfl)) (kX (L_iload (x := s25.2.2) 0 X dL_isFree_91 rfl)) (k2 (O_iadd X dL_isFree_93))) (fun v0 v1 v2 st L a b hd hc hs h => by obtain ⟨rfl, h1⟩ := lgo_of h; exact k_callH (st := st) X htr (E_L_rank sv v1 v2) lkh_rank stl_rank ml_L_173 rfl (by rw [hR]; exact ⟨Nat.le_of_ble_eq_true rfl, Nat.le_of_ble_eq_true rfl⟩) (Nat.le_trans hd (by decide)) ⟨hc, hs⟩ dL_isFree_94 h1)) (kX (L_iconst (v := I 2) X dL_isFree_97 (by decide))) (kF2 (C_lt_F X dL_isFree_98 (by decide)))))) (kB (S_b1 X dL_isFree_101 dL_isFree_102 (by decide))) (kB (S_b0 X dL_isFree_105))) (kS (S_istore (ev := fun is_50 => [(5, .int is_50), (8, .int s25.2.2), (7, .int s19.2.2), (6, .int s25.2.1), (4, .int free_5), (0, va_rf (some sv)), (1, .int people_), (2, .int from_), (3, .int length_)]) X dL_isFree_106 (by rw [hN]; decide) (fun _ => rfl))) fun is_50 =>
  (KST_let (KXE_b2i (KCE_or (KCE_1 (kX (L_iload (x := s25.2.1) 3 X dL_isFree_108 rfl)) (kF1 (Z_ne_T X dL_isFree_110 (by decide)))) (KCE_and (KCE_and (KCE_2 wI (KXE_2 wI (KXE_2 wI (kX (L_iload (x := free_5) 4 X dL_isFree_113 rfl)) (kX (L_iload (x := s25.2.2) 1 X dL_isFree_115 rfl)) (k2 (O_iadd X dL_isFree_117))) (kX (L_iconst (v := I 1) X dL_isFree_118 (by decide))) (k2 (O_isub X dL_isFree_119))) (kX (L_sipush (v := I 1600) X dL_isFree_120 (by decide))) (kF2 (C_le_F X dL_isFree_123 (by decide)))) (KCE_2 wI (KXE_2 wI (kX (L_iload (x := free_5) 4 X dL_isFree_126 rfl)) (kX (L_iload (x := s25.2.2) 1 X dL_isFree_128 rfl)) (k2 (O_iadd X dL_isFree_130))) (kX (L_bipush (v := I (-48)) X dL_isFree_131 (by decide))) (kF2 (C_gt_F X dL_isFree_133 (by decide))))) (KCE_2 wI (KXE_3 (pB := pI) wR wI (kX (L_aload_n (r := (some sv)) 5 X dL_isFree_136 rfl rfl)) (kX (L_iload (x := s19.2.2) 2 X dL_isFree_137 rfl)) (KXE_2 wI (KXE_2 wI (kX (L_iload (x := free_5) 4 X dL_isFree_139 rfl)) (kX (L_iload (x := s25.2.2) 1 X dL_isFree_141 rfl)) (k2 (O_iadd X dL_isFree_143))) (kX (L_iconst (v := I 1) X dL_isFree_144 (by decide))) (k2 (O_isub X dL_isFree_145))) (fun v0 v1 v2 st L a b hd hc hs h => by obtain ⟨rfl, h1⟩ := lgo_of h; exact k_callH (st := st) X htr (E_L_rank sv v1 v2) lkh_rank stl_rank ml_L_173 rfl (by rw [hR]; exact ⟨Nat.le_of_ble_eq_true rfl, Nat.le_of_ble_eq_true rfl⟩) (Nat.le_trans hd (by decide)) ⟨hc, hs⟩ dL_isFree_146 h1)) (kX (L_iconst (v := I 2) X dL_isFree_149 (by decide))) (kF2 (C_eq_F X dL_isFree_150 (by decide)))))) (kB (S_b1 X dL_isFree_153 dL_isFree_154 (by decide))) (kB (S_b0 X dL_isFree_157))) (kS (S_istore (ev := fun ahead_75 => [(6, .int ahead_75), (5, .int is_50), (8, .int s25.2.2), (7, .int s19.2.2), (4, .int free_5), (0, va_rf (some sv)), (1, .int people_), (2, .int from_), (3, .int length_)]) X dL_isFree_158 (by rw [hN]; decide) (fun _ => rfl))) fun ahead_75 =>
  (KST_pre (env' := [(8, .int (s25.2.2 + 1)), (6, .int ahead_75), (5, .int is_50), (7, .int s19.2.2), (4, .int free_5), (0, va_rf (some sv)), (1, .int people_), (2, .int from_), (3, .int length_)]) (kP (S_iinc 2 X dL_isFree_160 rfl rfl (by rw [hN]; decide) rfl))
  (KST_done (upd := (fun (s : Int32 × Int32 × Int32) => [(8, .int s.2.2), (7, .int s19.2.2), (6, .int s.2.1), (5, .int s.1), (4, .int free_5), (0, va_rf (some sv)), (1, .int people_), (2, .int from_), (3, .int length_)])) (s := (is_50, ahead_75, (s25.2.2 + 1))) [0, 3, 1, 2, 4, 5, 6, 7, 8] rfl)))) fun _ L a b h => kJ (S_goto X dL_isFree_163 (by decide)) [] L a b h))) fun s76 =>
  (KST_pre (env' := [(7, .int (s19.2.2 + 1)), (8, .int s76.2.2), (6, .int s76.2.1), (5, .int s76.1), (4, .int free_5), (0, va_rf (some sv)), (1, .int people_), (2, .int from_), (3, .int length_)]) (kP (S_iinc 1 X dL_isFree_166 rfl rfl (by rw [hN]; decide) rfl))
  (KST_done (upd := (fun (s : Int32 × Int32 × Int32) => [(7, .int s.2.2), (6, .int s.2.1), (5, .int s.1), (4, .int free_5), (0, va_rf (some sv)), (1, .int people_), (2, .int from_), (3, .int length_)])) (s := (s76.1, s76.2.1, (s19.2.2 + 1))) [0, 2, 3, 4, 5, 6, 7, 8] rfl)))) fun _ L a b h => kJ (S_goto X dL_isFree_169 (by decide)) [] L a b h))) fun s77 =>
  (kretZ X C hr dL_isFree_277 (KXE_b2i (KCE_and (KCE_and (KCE_and (KCE_and (KCE_and (KCE_and (KCE_and (KCE_1 (kX (L_iload (x := s77.1) 2 X dL_isFree_172 rfl)) (kF1 (Z_ne_F X dL_isFree_174 (by decide)))) (KCE_or (KCE_or (KCE_2 wI (kX (L_iload (x := free_5) 3 X dL_isFree_177 rfl)) (kX (L_iload_n (x := from_) 6 X dL_isFree_179 rfl rfl)) (kF2 (C_eq_T X dL_isFree_180 (by decide)))) (KCE_1 (kX (L_iload (x := s77.2.1) 1 X dL_isFree_183 rfl)) (kF1 (Z_ne_T X dL_isFree_185 (by decide))))) (KCE_2 wI (kX (L_iload (x := free_5) 3 X dL_isFree_188 rfl)) (kX (L_sipush (v := I 1500) X dL_isFree_190 (by decide))) (kF2 (C_gt_F X dL_isFree_193 (by decide)))))) (KCE_2 wI (KXE_4 (pB := pI) wR wI wI (kX (L_aload_n (r := (some sv)) 4 X dL_isFree_196 rfl rfl)) (kX (L_iconst (v := I 0) X dL_isFree_197 (by decide))) (kX (L_iconst (v := I 0) X dL_isFree_198 (by decide))) (kX (L_iconst (v := I 1) X dL_isFree_199 (by decide))) (fun v0 v1 v2 v3 st L a b hd hc hs h => by obtain ⟨rfl, h1⟩ := lgo_of h; exact k_callH (st := st) X htr (E_L_firstFree sv v1 v2 v3) lkh_firstFree stl_firstFree ml_L_192 rfl (by rw [hR]; exact ⟨Nat.le_of_ble_eq_true rfl, Nat.le_of_ble_eq_true rfl⟩) (Nat.le_trans hd (by decide)) ⟨hc, hs⟩ dL_isFree_200 h1)) (kX (L_ldc (v := I (-1000002)) X dL_isFree_203 kd_L_21)) (kF2 (C_eq_F X dL_isFree_205 (by decide))))) (KCE_2 wI (KXE_4 (pB := pI) wR wI wI (kX (L_aload_n (r := (some sv)) 4 X dL_isFree_208 rfl rfl)) (kX (L_bipush (v := I 32) X dL_isFree_209 (by decide))) (kX (L_iconst (v := I 0) X dL_isFree_211 (by decide))) (kX (L_iconst (v := I 1) X dL_isFree_212 (by decide))) (fun v0 v1 v2 v3 st L a b hd hc hs h => by obtain ⟨rfl, h1⟩ := lgo_of h; exact k_callH (st := st) X htr (E_L_firstFree sv v1 v2 v3) lkh_firstFree stl_firstFree ml_L_192 rfl (by rw [hR]; exact ⟨Nat.le_of_ble_eq_true rfl, Nat.le_of_ble_eq_true rfl⟩) (Nat.le_trans hd (by decide)) ⟨hc, hs⟩ dL_isFree_213 h1)) (kX (L_ldc (v := I (-1000002)) X dL_isFree_216 kd_L_21)) (kF2 (C_eq_F X dL_isFree_218 (by decide))))) (KCE_2 wI (KXE_4 (pB := pI) wR wI wI (kX (L_aload_n (r := (some sv)) 4 X dL_isFree_221 rfl rfl)) (kX (L_iconst (v := I 1) X dL_isFree_222 (by decide))) (kX (L_sipush (v := I 1501) X dL_isFree_223 (by decide))) (kX (L_iconst (v := I 1) X dL_isFree_226 (by decide))) (fun v0 v1 v2 v3 st L a b hd hc hs h => by obtain ⟨rfl, h1⟩ := lgo_of h; exact k_callH (st := st) X htr (E_L_firstFree sv v1 v2 v3) lkh_firstFree stl_firstFree ml_L_192 rfl (by rw [hR]; exact ⟨Nat.le_of_ble_eq_true rfl, Nat.le_of_ble_eq_true rfl⟩) (Nat.le_trans hd (by decide)) ⟨hc, hs⟩ dL_isFree_227 h1)) (kX (L_ldc (v := I (-1000002)) X dL_isFree_230 kd_L_21)) (kF2 (C_eq_F X dL_isFree_232 (by decide))))) (KCE_2 wI (KXE_4 (pB := pI) wR wI wI (kX (L_aload_n (r := (some sv)) 4 X dL_isFree_235 rfl rfl)) (kX (L_iconst (v := I 1) X dL_isFree_236 (by decide))) (kX (L_iconst (v := I 0) X dL_isFree_237 (by decide))) (kX (L_bipush (v := I 49) X dL_isFree_238 (by decide))) (fun v0 v1 v2 v3 st L a b hd hc hs h => by obtain ⟨rfl, h1⟩ := lgo_of h; exact k_callH (st := st) X htr (E_L_firstFreeByHours sv v1 v2 v3) lkh_firstFreeByHours stl_firstFreeByHours ml_L_194 rfl (by rw [hR]; exact ⟨Nat.le_of_ble_eq_true rfl, Nat.le_of_ble_eq_true rfl⟩) (Nat.le_trans hd (by decide)) ⟨hc, hs⟩ dL_isFree_240 h1)) (kX (L_ldc (v := I (-1000002)) X dL_isFree_243 kd_L_21)) (kF2 (C_eq_F X dL_isFree_245 (by decide))))) (KCE_2 wI (KXE_3 (pB := pI) wR wI (kX (L_aload_n (r := (some sv)) 4 X dL_isFree_248 rfl rfl)) (kX (L_iconst (v := I 5) X dL_isFree_249 (by decide))) (kX (L_iconst (v := I 0) X dL_isFree_250 (by decide))) (fun v0 v1 v2 st L a b hd hc hs h => by obtain ⟨rfl, h1⟩ := lgo_of h; exact k_callH (st := st) X htr (E_L_rank sv v1 v2) lkh_rank stl_rank ml_L_173 rfl (by rw [hR]; exact ⟨Nat.le_of_ble_eq_true rfl, Nat.le_of_ble_eq_true rfl⟩) (Nat.le_trans hd (by decide)) ⟨hc, hs⟩ dL_isFree_251 h1)) (kX (L_ldc (v := I (-1000001)) X dL_isFree_254 kd_L_18)) (kF2 (C_eq_F X dL_isFree_256 (by decide))))) (KCE_2 wI (KXE_3 (pB := pI) wR wI (kX (L_aload_n (r := (some sv)) 4 X dL_isFree_259 rfl rfl)) (kX (L_iconst (v := I 0) X dL_isFree_260 (by decide))) (kX (L_sipush (v := I 1601) X dL_isFree_261 (by decide))) (fun v0 v1 v2 st L a b hd hc hs h => by obtain ⟨rfl, h1⟩ := lgo_of h; exact k_callH (st := st) X htr (E_L_rank sv v1 v2) lkh_rank stl_rank ml_L_173 rfl (by rw [hR]; exact ⟨Nat.le_of_ble_eq_true rfl, Nat.le_of_ble_eq_true rfl⟩) (Nat.le_trans hd (by decide)) ⟨hc, hs⟩ dL_isFree_264 h1)) (kX (L_ldc (v := I (-1000002)) X dL_isFree_267 kd_L_21)) (kF2 (C_eq_F X dL_isFree_269 (by decide))))) (kB (S_b1 X dL_isFree_272 dL_isFree_273 (by decide))) (kB (S_b0 X dL_isFree_276))))))))) h0 (by rw [hR]; exact Nat.le_of_ble_eq_true rfl) (by rw [hR]; exact Nat.le_of_ble_eq_true rfl)
theorem dL_areMarks_0 : decode cL_areMarks 0 = .ok (.aload_n 0, 1) := by decide +kernel
theorem dL_areMarks_1 : decode cL_areMarks 1 = .ok (.iload_n 3, 1) := by decide +kernel
theorem dL_areMarks_2 : decode cL_areMarks 2 = .ok (.invokestatic 196, 3) := by decide +kernel
theorem dL_areMarks_5 : decode cL_areMarks 5 = .ok (.istore 5, 2) := by decide +kernel
theorem dL_areMarks_7 : decode cL_areMarks 7 = .ok (.iload 4, 2) := by decide +kernel
theorem dL_areMarks_9 : decode cL_areMarks 9 = .ok (.iload 5, 2) := by decide +kernel
theorem dL_areMarks_11 : decode cL_areMarks 11 = .ok (.iconst 1, 1) := by decide +kernel
theorem dL_areMarks_12 : decode cL_areMarks 12 = .ok (.iadd, 1) := by decide +kernel
theorem dL_areMarks_13 : decode cL_areMarks 13 = .ok (.invokestatic 198, 3) := by decide +kernel
theorem dL_areMarks_16 : decode cL_areMarks 16 = .ok (.istore 6, 2) := by decide +kernel
theorem dL_areMarks_18 : decode cL_areMarks 18 = .ok (.aload_n 0, 1) := by decide +kernel
theorem dL_areMarks_19 : decode cL_areMarks 19 = .ok (.iload_n 3, 1) := by decide +kernel
theorem dL_areMarks_20 : decode cL_areMarks 20 = .ok (.iload 6, 2) := by decide +kernel
theorem dL_areMarks_22 : decode cL_areMarks 22 = .ok (.invokestatic 201, 3) := by decide +kernel
theorem dL_areMarks_25 : decode cL_areMarks 25 = .ok (.istore 7, 2) := by decide +kernel
theorem dL_areMarks_27 : decode cL_areMarks 27 = .ok (.iload 5, 2) := by decide +kernel
theorem dL_areMarks_29 : decode cL_areMarks 29 = .ok (.aload_n 1, 1) := by decide +kernel
theorem dL_areMarks_30 : decode cL_areMarks 30 = .ok (.iload_n 3, 1) := by decide +kernel
theorem dL_areMarks_31 : decode cL_areMarks 31 = .ok (.iaload, 1) := by decide +kernel
theorem dL_areMarks_32 : decode cL_areMarks 32 = .ok (.if_icmp .ne 75, 3) := by decide +kernel
theorem dL_areMarks_35 : decode cL_areMarks 35 = .ok (.aload_n 0, 1) := by decide +kernel
theorem dL_areMarks_36 : decode cL_areMarks 36 = .ok (.iload_n 3, 1) := by decide +kernel
theorem dL_areMarks_37 : decode cL_areMarks 37 = .ok (.iload 5, 2) := by decide +kernel
theorem dL_areMarks_39 : decode cL_areMarks 39 = .ok (.invokestatic 201, 3) := by decide +kernel
theorem dL_areMarks_42 : decode cL_areMarks 42 = .ok (.ifCond .ne 65, 3) := by decide +kernel
theorem dL_areMarks_45 : decode cL_areMarks 45 = .ok (.aload_n 0, 1) := by decide +kernel
theorem dL_areMarks_46 : decode cL_areMarks 46 = .ok (.iload_n 3, 1) := by decide +kernel
theorem dL_areMarks_47 : decode cL_areMarks 47 = .ok (.iload 5, 2) := by decide +kernel
theorem dL_areMarks_49 : decode cL_areMarks 49 = .ok (.iconst 1, 1) := by decide +kernel
theorem dL_areMarks_50 : decode cL_areMarks 50 = .ok (.iadd, 1) := by decide +kernel
theorem dL_areMarks_51 : decode cL_areMarks 51 = .ok (.invokestatic 201, 3) := by decide +kernel
theorem dL_areMarks_54 : decode cL_areMarks 54 = .ok (.ldc 21, 2) := by decide +kernel
theorem dL_areMarks_56 : decode cL_areMarks 56 = .ok (.if_icmp .ne 51, 3) := by decide +kernel
theorem dL_areMarks_59 : decode cL_areMarks 59 = .ok (.aload_n 0, 1) := by decide +kernel
theorem dL_areMarks_60 : decode cL_areMarks 60 = .ok (.iload_n 3, 1) := by decide +kernel
theorem dL_areMarks_61 : decode cL_areMarks 61 = .ok (.iconst (-1), 1) := by decide +kernel
theorem dL_areMarks_62 : decode cL_areMarks 62 = .ok (.invokestatic 201, 3) := by decide +kernel
theorem dL_areMarks_65 : decode cL_areMarks 65 = .ok (.ldc 21, 2) := by decide +kernel
theorem dL_areMarks_67 : decode cL_areMarks 67 = .ok (.if_icmp .ne 40, 3) := by decide +kernel
theorem dL_areMarks_70 : decode cL_areMarks 70 = .ok (.aload_n 0, 1) := by decide +kernel
theorem dL_areMarks_71 : decode cL_areMarks 71 = .ok (.iconst 5, 1) := by decide +kernel
theorem dL_areMarks_72 : decode cL_areMarks 72 = .ok (.invokestatic 196, 3) := by decide +kernel
theorem dL_areMarks_75 : decode cL_areMarks 75 = .ok (.ldc 18, 2) := by decide +kernel
theorem dL_areMarks_77 : decode cL_areMarks 77 = .ok (.if_icmp .ne 30, 3) := by decide +kernel
theorem dL_areMarks_80 : decode cL_areMarks 80 = .ok (.aload_n 0, 1) := by decide +kernel
theorem dL_areMarks_81 : decode cL_areMarks 81 = .ok (.iconst 5, 1) := by decide +kernel
theorem dL_areMarks_82 : decode cL_areMarks 82 = .ok (.iconst 0, 1) := by decide +kernel
theorem dL_areMarks_83 : decode cL_areMarks 83 = .ok (.invokestatic 201, 3) := by decide +kernel
theorem dL_areMarks_86 : decode cL_areMarks 86 = .ok (.ldc 18, 2) := by decide +kernel
theorem dL_areMarks_88 : decode cL_areMarks 88 = .ok (.if_icmp .ne 19, 3) := by decide +kernel
theorem dL_areMarks_91 : decode cL_areMarks 91 = .ok (.aload_n 0, 1) := by decide +kernel
theorem dL_areMarks_92 : decode cL_areMarks 92 = .ok (.iconst (-1), 1) := by decide +kernel
theorem dL_areMarks_93 : decode cL_areMarks 93 = .ok (.iconst 0, 1) := by decide +kernel
theorem dL_areMarks_94 : decode cL_areMarks 94 = .ok (.iconst 0, 1) := by decide +kernel
theorem dL_areMarks_95 : decode cL_areMarks 95 = .ok (.invokestatic 203, 3) := by decide +kernel
theorem dL_areMarks_98 : decode cL_areMarks 98 = .ok (.ldc 18, 2) := by decide +kernel
theorem dL_areMarks_100 : decode cL_areMarks 100 = .ok (.if_icmp .ne 7, 3) := by decide +kernel
theorem dL_areMarks_103 : decode cL_areMarks 103 = .ok (.iconst 1, 1) := by decide +kernel
theorem dL_areMarks_104 : decode cL_areMarks 104 = .ok (.goto 4, 3) := by decide +kernel
theorem dL_areMarks_107 : decode cL_areMarks 107 = .ok (.iconst 0, 1) := by decide +kernel
theorem dL_areMarks_108 : decode cL_areMarks 108 = .ok (.istore 8, 2) := by decide +kernel
theorem dL_areMarks_110 : decode cL_areMarks 110 = .ok (.iload 7, 2) := by decide +kernel
theorem dL_areMarks_112 : decode cL_areMarks 112 = .ok (.ldc 38, 2) := by decide +kernel
theorem dL_areMarks_114 : decode cL_areMarks 114 = .ok (.if_icmp .ne 34, 3) := by decide +kernel
theorem dL_areMarks_117 : decode cL_areMarks 117 = .ok (.iload 8, 2) := by decide +kernel
theorem dL_areMarks_119 : decode cL_areMarks 119 = .ok (.ifCond .eq 27, 3) := by decide +kernel
theorem dL_areMarks_122 : decode cL_areMarks 122 = .ok (.iload 6, 2) := by decide +kernel
theorem dL_areMarks_124 : decode cL_areMarks 124 = .ok (.iload 5, 2) := by decide +kernel
theorem dL_areMarks_126 : decode cL_areMarks 126 = .ok (.if_icmp .ge 20, 3) := by decide +kernel
theorem dL_areMarks_129 : decode cL_areMarks 129 = .ok (.aload_n 0, 1) := by decide +kernel
theorem dL_areMarks_130 : decode cL_areMarks 130 = .ok (.iload_n 3, 1) := by decide +kernel
theorem dL_areMarks_131 : decode cL_areMarks 131 = .ok (.iload 6, 2) := by decide +kernel
theorem dL_areMarks_133 : decode cL_areMarks 133 = .ok (.iconst 0, 1) := by decide +kernel
theorem dL_areMarks_134 : decode cL_areMarks 134 = .ok (.invokestatic 203, 3) := by decide +kernel
theorem dL_areMarks_137 : decode cL_areMarks 137 = .ok (.ldc 38, 2) := by decide +kernel
theorem dL_areMarks_139 : decode cL_areMarks 139 = .ok (.if_icmp .ne 7, 3) := by decide +kernel
theorem dL_areMarks_142 : decode cL_areMarks 142 = .ok (.iconst 1, 1) := by decide +kernel
theorem dL_areMarks_143 : decode cL_areMarks 143 = .ok (.goto 4, 3) := by decide +kernel
theorem dL_areMarks_146 : decode cL_areMarks 146 = .ok (.iconst 0, 1) := by decide +kernel
theorem dL_areMarks_147 : decode cL_areMarks 147 = .ok (.ireturn, 1) := by decide +kernel
theorem dL_areMarks_148 : decode cL_areMarks 148 = .ok (.iconst 0, 1) := by decide +kernel
theorem dL_areMarks_149 : decode cL_areMarks 149 = .ok (.istore 9, 2) := by decide +kernel
theorem dL_areMarks_151 : decode cL_areMarks 151 = .ok (.iconst 0, 1) := by decide +kernel
theorem dL_areMarks_152 : decode cL_areMarks 152 = .ok (.istore 10, 2) := by decide +kernel
theorem dL_areMarks_154 : decode cL_areMarks 154 = .ok (.iload 10, 2) := by decide +kernel
theorem dL_areMarks_156 : decode cL_areMarks 156 = .ok (.iload 7, 2) := by decide +kernel
theorem dL_areMarks_158 : decode cL_areMarks 158 = .ok (.if_icmp .ge 25, 3) := by decide +kernel
theorem dL_areMarks_161 : decode cL_areMarks 161 = .ok (.iload 9, 2) := by decide +kernel
theorem dL_areMarks_163 : decode cL_areMarks 163 = .ok (.iconst 1, 1) := by decide +kernel
theorem dL_areMarks_164 : decode cL_areMarks 164 = .ok (.aload_n 0, 1) := by decide +kernel
theorem dL_areMarks_165 : decode cL_areMarks 165 = .ok (.iload_n 3, 1) := by decide +kernel
theorem dL_areMarks_166 : decode cL_areMarks 166 = .ok (.iload 6, 2) := by decide +kernel
theorem dL_areMarks_168 : decode cL_areMarks 168 = .ok (.iload 10, 2) := by decide +kernel
theorem dL_areMarks_170 : decode cL_areMarks 170 = .ok (.invokestatic 203, 3) := by decide +kernel
theorem dL_areMarks_173 : decode cL_areMarks 173 = .ok (.ishl, 1) := by decide +kernel
theorem dL_areMarks_174 : decode cL_areMarks 174 = .ok (.ior, 1) := by decide +kernel
theorem dL_areMarks_175 : decode cL_areMarks 175 = .ok (.istore 9, 2) := by decide +kernel
theorem dL_areMarks_177 : decode cL_areMarks 177 = .ok (.iinc 10 1, 3) := by decide +kernel
theorem dL_areMarks_180 : decode cL_areMarks 180 = .ok (.goto (-26), 3) := by decide +kernel
theorem dL_areMarks_183 : decode cL_areMarks 183 = .ok (.iconst 0, 1) := by decide +kernel
theorem dL_areMarks_184 : decode cL_areMarks 184 = .ok (.istore 10, 2) := by decide +kernel
theorem dL_areMarks_186 : decode cL_areMarks 186 = .ok (.iconst 0, 1) := by decide +kernel
theorem dL_areMarks_187 : decode cL_areMarks 187 = .ok (.istore 11, 2) := by decide +kernel
theorem dL_areMarks_189 : decode cL_areMarks 189 = .ok (.iload 11, 2) := by decide +kernel
theorem dL_areMarks_191 : decode cL_areMarks 191 = .ok (.aload_n 2, 1) := by decide +kernel
theorem dL_areMarks_192 : decode cL_areMarks 192 = .ok (.iconst 0, 1) := by decide +kernel
theorem dL_areMarks_193 : decode cL_areMarks 193 = .ok (.iaload, 1) := by decide +kernel
theorem dL_areMarks_194 : decode cL_areMarks 194 = .ok (.if_icmp .ge 21, 3) := by decide +kernel
theorem dL_areMarks_197 : decode cL_areMarks 197 = .ok (.iload 10, 2) := by decide +kernel
theorem dL_areMarks_199 : decode cL_areMarks 199 = .ok (.iload 9, 2) := by decide +kernel
theorem dL_areMarks_201 : decode cL_areMarks 201 = .ok (.iload 11, 2) := by decide +kernel
theorem dL_areMarks_203 : decode cL_areMarks 203 = .ok (.ishr, 1) := by decide +kernel
theorem dL_areMarks_204 : decode cL_areMarks 204 = .ok (.iconst 1, 1) := by decide +kernel
theorem dL_areMarks_205 : decode cL_areMarks 205 = .ok (.iand, 1) := by decide +kernel
theorem dL_areMarks_206 : decode cL_areMarks 206 = .ok (.iadd, 1) := by decide +kernel
theorem dL_areMarks_207 : decode cL_areMarks 207 = .ok (.istore 10, 2) := by decide +kernel
theorem dL_areMarks_209 : decode cL_areMarks 209 = .ok (.iinc 11 1, 3) := by decide +kernel
theorem dL_areMarks_212 : decode cL_areMarks 212 = .ok (.goto (-23), 3) := by decide +kernel
theorem dL_areMarks_215 : decode cL_areMarks 215 = .ok (.iload 8, 2) := by decide +kernel
theorem dL_areMarks_217 : decode cL_areMarks 217 = .ok (.ifCond .eq 74, 3) := by decide +kernel
theorem dL_areMarks_220 : decode cL_areMarks 220 = .ok (.iload 7, 2) := by decide +kernel
theorem dL_areMarks_222 : decode cL_areMarks 222 = .ok (.ifCond .lt 69, 3) := by decide +kernel
theorem dL_areMarks_225 : decode cL_areMarks 225 = .ok (.iload 7, 2) := by decide +kernel
theorem dL_areMarks_227 : decode cL_areMarks 227 = .ok (.aload_n 2, 1) := by decide +kernel
theorem dL_areMarks_228 : decode cL_areMarks 228 = .ok (.iconst 0, 1) := by decide +kernel
theorem dL_areMarks_229 : decode cL_areMarks 229 = .ok (.iaload, 1) := by decide +kernel
theorem dL_areMarks_230 : decode cL_areMarks 230 = .ok (.if_icmp .gt 61, 3) := by decide +kernel
theorem dL_areMarks_233 : decode cL_areMarks 233 = .ok (.iload 10, 2) := by decide +kernel
theorem dL_areMarks_235 : decode cL_areMarks 235 = .ok (.iload 7, 2) := by decide +kernel
theorem dL_areMarks_237 : decode cL_areMarks 237 = .ok (.if_icmp .ne 54, 3) := by decide +kernel
theorem dL_areMarks_240 : decode cL_areMarks 240 = .ok (.aload_n 0, 1) := by decide +kernel
theorem dL_areMarks_241 : decode cL_areMarks 241 = .ok (.iload_n 3, 1) := by decide +kernel
theorem dL_areMarks_242 : decode cL_areMarks 242 = .ok (.iload 6, 2) := by decide +kernel
theorem dL_areMarks_244 : decode cL_areMarks 244 = .ok (.iload 7, 2) := by decide +kernel
theorem dL_areMarks_246 : decode cL_areMarks 246 = .ok (.invokestatic 203, 3) := by decide +kernel
theorem dL_areMarks_249 : decode cL_areMarks 249 = .ok (.ldc 18, 2) := by decide +kernel
theorem dL_areMarks_251 : decode cL_areMarks 251 = .ok (.if_icmp .ne 40, 3) := by decide +kernel
theorem dL_areMarks_254 : decode cL_areMarks 254 = .ok (.iload 6, 2) := by decide +kernel
theorem dL_areMarks_256 : decode cL_areMarks 256 = .ok (.ifCond .eq 31, 3) := by decide +kernel
theorem dL_areMarks_259 : decode cL_areMarks 259 = .ok (.aload_n 0, 1) := by decide +kernel
theorem dL_areMarks_260 : decode cL_areMarks 260 = .ok (.iload_n 3, 1) := by decide +kernel
theorem dL_areMarks_261 : decode cL_areMarks 261 = .ok (.iload 6, 2) := by decide +kernel
theorem dL_areMarks_263 : decode cL_areMarks 263 = .ok (.iconst 1, 1) := by decide +kernel
theorem dL_areMarks_264 : decode cL_areMarks 264 = .ok (.isub, 1) := by decide +kernel
theorem dL_areMarks_265 : decode cL_areMarks 265 = .ok (.invokestatic 201, 3) := by decide +kernel
theorem dL_areMarks_268 : decode cL_areMarks 268 = .ok (.ldc 38, 2) := by decide +kernel
theorem dL_areMarks_270 : decode cL_areMarks 270 = .ok (.if_icmp .eq 17, 3) := by decide +kernel
theorem dL_areMarks_273 : decode cL_areMarks 273 = .ok (.aload_n 0, 1) := by decide +kernel
theorem dL_areMarks_274 : decode cL_areMarks 274 = .ok (.iload_n 3, 1) := by decide +kernel
theorem dL_areMarks_275 : decode cL_areMarks 275 = .ok (.iload 6, 2) := by decide +kernel
theorem dL_areMarks_277 : decode cL_areMarks 277 = .ok (.iconst 1, 1) := by decide +kernel
theorem dL_areMarks_278 : decode cL_areMarks 278 = .ok (.isub, 1) := by decide +kernel
theorem dL_areMarks_279 : decode cL_areMarks 279 = .ok (.invokestatic 201, 3) := by decide +kernel
theorem dL_areMarks_282 : decode cL_areMarks 282 = .ok (.iload 7, 2) := by decide +kernel
theorem dL_areMarks_284 : decode cL_areMarks 284 = .ok (.if_icmp .lt 7, 3) := by decide +kernel
theorem dL_areMarks_287 : decode cL_areMarks 287 = .ok (.iconst 1, 1) := by decide +kernel
theorem dL_areMarks_288 : decode cL_areMarks 288 = .ok (.goto 4, 3) := by decide +kernel
theorem dL_areMarks_291 : decode cL_areMarks 291 = .ok (.iconst 0, 1) := by decide +kernel
theorem dL_areMarks_292 : decode cL_areMarks 292 = .ok (.ireturn, 1) := by decide +kernel
theorem lk_L_areMarks : LK yL_areMarks cL_areMarks 12 (some .boolean) 5 := ⟨qW_at 399 (by decide +kernel) rfl, qW_at 28 (by decide +kernel) rfl, by decide, by decide, by decide +kernel⟩
theorem st_L_areMarks : Cond.static yL_areMarks ∈ qW := qW_at 398 (by decide +kernel) rfl
def F_L_areMarks (sv : Nat) (person_ x_ : Int32) : LX Int32 :=
  (lb (lb (lp (some sv)) fun v1 => lb (lp person_) fun v2 => lgo v1 sv (w_mark v2)) fun mark_3 =>
  (lb (lb (lp x_) fun v6 => lb (lb (lp mark_3) fun v4 => lb (lp (I 1)) fun v5 => (lp (v4 + v5))) fun v7 => F_L_low sv v6 v7) fun above_8 =>
  (lb (lb (lp (some sv)) fun v9 => lb (lp person_) fun v10 => lb (lp above_8) fun v11 => lgo v9 sv (w_changes v10 v11)) fun many_12 =>
  (lb (lb (lb (lb (lb (lb (lb (lb (lb (lp mark_3) fun v13 => lb (lb (lp (some (sv + 21))) fun v14 => lb (lp person_) fun v15 => lai sv v14 v15) fun v16 => lp (decide (v13 = v16))) fun v21 => if v21 then (lb (lb (lp (some sv)) fun v17 => lb (lp person_) fun v18 => lb (lp mark_3) fun v19 => lgo v17 sv (w_changes v18 v19)) fun v20 => lp (decide (v20 = 0))) else lp false) fun v29 => if v29 then (lb (lb (lp (some sv)) fun v24 => lb (lp person_) fun v25 => lb (lb (lp mark_3) fun v22 => lb (lp (I 1)) fun v23 => (lp (v22 + v23))) fun v26 => lgo v24 sv (w_changes v25 v26)) fun v27 => lb (lp (I (-1000002))) fun v28 => lp (decide (v27 = v28))) else lp false) fun v35 => if v35 then (lb (lb (lp (some sv)) fun v30 => lb (lp person_) fun v31 => lb (lp (I (-1))) fun v32 => lgo v30 sv (w_changes v31 v32)) fun v33 => lb (lp (I (-1000002))) fun v34 => lp (decide (v33 = v34))) else lp false) fun v40 => if v40 then (lb (lb (lp (some sv)) fun v36 => lb (lp (I 5)) fun v37 => lgo v36 sv (w_mark v37)) fun v38 => lb (lp (I (-1000001))) fun v39 => lp (decide (v38 = v39))) else lp false) fun v46 => if v46 then (lb (lb (lp (some sv)) fun v41 => lb (lp (I 5)) fun v42 => lb (lp (I 0)) fun v43 => lgo v41 sv (w_changes v42 v43)) fun v44 => lb (lp (I (-1000001))) fun v45 => lp (decide (v44 = v45))) else lp false) fun v53 => if v53 then (lb (lb (lp (some sv)) fun v47 => lb (lp (I (-1))) fun v48 => lb (lp (I 0)) fun v49 => lb (lp (I 0)) fun v50 => lgo v47 sv (w_changeAt v48 v49 v50)) fun v51 => lb (lp (I (-1000001))) fun v52 => lp (decide (v51 = v52))) else lp false) fun v54 => lp (b2i v54)) fun is_55 =>
  (lb (lb (lp many_12) fun v56 => lb (lp (I (-1000003))) fun v57 => lp (decide (v56 = v57))) fun v137 => if v137 then (lb (lb (lb (lb (lb (lp is_55) fun v58 => lp (decide (¬ v58 = 0))) fun v61 => if v61 then (lb (lp above_8) fun v59 => lb (lp mark_3) fun v60 => lp (decide (v59 < v60))) else lp false) fun v68 => if v68 then (lb (lb (lp (some sv)) fun v62 => lb (lp person_) fun v63 => lb (lp above_8) fun v64 => lb (lp (I 0)) fun v65 => lgo v62 sv (w_changeAt v63 v64 v65)) fun v66 => lb (lp (I (-1000003))) fun v67 => lp (decide (v66 = v67))) else lp false) fun v69 => lp (b2i v69)) lz) else
  (lb (lp (I 0)) fun set_70 =>
  (lb (lp (I 0)) fun n_71 =>
  (lb (ll 9 (fun (s72 : Int32 × Int32) => (lb (lp s72.2) fun v73 => lb (lp many_12) fun v74 => lp (decide (v73 < v74)))) (fun (s72 : Int32 × Int32) =>
  (lb (lb (lp s72.1) fun v81 => lb (lb (lp (I 1)) fun v79 => lb (lb (lp (some sv)) fun v75 => lb (lp person_) fun v76 => lb (lp above_8) fun v77 => lb (lp s72.2) fun v78 => lgo v75 sv (w_changeAt v76 v77 v78)) fun v80 => (lp (v79 <<< (v80 &&& 31)))) fun v82 => (lp (v81 ||| v82))) fun set_83 =>
  (lp (set_83, (s72.2 + 1))))) (set_70, n_71)) fun s84 =>
  (lb (lp (I 0)) fun count_85 =>
  (lb (lp (I 0)) fun n_86 =>
  (lb (ll 9 (fun (s87 : Int32 × Int32) => (lb (lp s87.2) fun v88 => lb (lb (lp (some (sv + 22))) fun v89 => lb (lp (I 0)) fun v90 => lai sv v89 v90) fun v91 => lp (decide (v88 < v91)))) (fun (s87 : Int32 × Int32) =>
  (lb (lb (lp s87.1) fun v96 => lb (lb (lb (lp s84.1) fun v92 => lb (lp s87.2) fun v93 => (lp (v92 >>> (v93 &&& 31)))) fun v94 => lb (lp (I 1)) fun v95 => (lp (v94 &&& v95))) fun v97 => (lp (v96 + v97))) fun count_98 =>
  (lp (count_98, (s87.2 + 1))))) (count_85, n_86)) fun s99 =>
  (lb (lb (lb (lb (lb (lb (lb (lb (lp is_55) fun v100 => lp (decide (¬ v100 = 0))) fun v102 => if v102 then (lb (lp many_12) fun v101 => lp (decide (0 ≤ v101))) else lp false) fun v107 => if v107 then (lb (lp many_12) fun v103 => lb (lb (lp (some (sv + 22))) fun v104 => lb (lp (I 0)) fun v105 => lai sv v104 v105) fun v106 => lp (decide (v103 ≤ v106))) else lp false) fun v110 => if v110 then (lb (lp s99.1) fun v108 => lb (lp many_12) fun v109 => lp (decide (v108 = v109))) else lp false) fun v117 => if v117 then (lb (lb (lp (some sv)) fun v111 => lb (lp person_) fun v112 => lb (lp above_8) fun v113 => lb (lp many_12) fun v114 => lgo v111 sv (w_changeAt v112 v113 v114)) fun v115 => lb (lp (I (-1000001))) fun v116 => lp (decide (v115 = v116))) else lp false) fun v135 => if v135 then (lb (lb (lb (lp above_8) fun v118 => lp (decide (v118 = 0))) fun v126 => if v126 then lp true else (lb (lb (lp (some sv)) fun v121 => lb (lp person_) fun v122 => lb (lb (lp above_8) fun v119 => lb (lp (I 1)) fun v120 => (lp (v119 - v120))) fun v123 => lgo v121 sv (w_changes v122 v123)) fun v124 => lb (lp (I (-1000003))) fun v125 => lp (decide (v124 = v125)))) fun v134 => if v134 then lp true else (lb (lb (lp (some sv)) fun v129 => lb (lp person_) fun v130 => lb (lb (lp above_8) fun v127 => lb (lp (I 1)) fun v128 => (lp (v127 - v128))) fun v131 => lgo v129 sv (w_changes v130 v131)) fun v132 => lb (lp many_12) fun v133 => lp (decide (v133 ≤ v132)))) else lp false) fun v136 => lp (b2i v136)) lz))))))))))))
set_option maxRecDepth 100000 in
set_option maxHeartbeats 4000000 in
theorem M_L_areMarks (sv : Nat) (person_ x_ : Int32) : LM yL_areMarks cL_areMarks 12 (some .boolean) 11 197 67 402 [.ref sv, .ref (sv + 21), .ref (sv + 22), .int person_, .int x_] sv (F_L_areMarks sv person_ x_) := by
  refine LM_of (env0 := [(0, va_rf (some sv)), (1, va_rf (some (sv + 21))), (2, va_rf (some (sv + 22))), (3, .int person_), (4, .int x_)]) (by decide) (by exact Nat.le_of_ble_eq_true rfl) rfl (fun k R X C hR hN hr L0 h0 => ?_)
  have X : CX k cL_areMarks RL := X
  have htr := C.2.2.2.1
  unfold F_L_areMarks at h0
  exact KSB_go (KSB_let (KXE_2 (pB := pI) wR (kX (L_aload_n (r := (some sv)) 0 X dL_areMarks_0 rfl rfl)) (kX (L_iload_n (x := person_) 3 X dL_areMarks_1 rfl rfl)) (fun v0 v1 st L a b hd hc hs h => by obtain ⟨rfl, h1⟩ := lgo_of h; exact k_callH (st := st) X htr (E_L_mark sv v1) lkh_mark stl_mark ml_L_196 rfl (by rw [hR]; exact ⟨Nat.le_of_ble_eq_true rfl, Nat.le_of_ble_eq_true rfl⟩) (Nat.le_trans hd (by decide)) ⟨hc, hs⟩ dL_areMarks_2 h1)) (kS (S_istore (ev := fun mark_3 => [(5, .int mark_3), (0, va_rf (some sv)), (1, va_rf (some (sv + 21))), (2, va_rf (some (sv + 22))), (3, .int person_), (4, .int x_)]) X dL_areMarks_5 (by rw [hN]; decide) (fun _ => rfl))) fun mark_3 =>
  (KSB_let (KXE_2 (pB := pI) wI (kX (L_iload (x := x_) 5 X dL_areMarks_7 rfl)) (KXE_2 wI (kX (L_iload (x := mark_3) 0 X dL_areMarks_9 rfl)) (kX (L_iconst (v := I 1) X dL_areMarks_11 (by decide))) (k2 (O_iadd X dL_areMarks_12))) (fun v0 v1 st L a b hd hc hs h => by exact k_callS (st := st) X htr (M_L_low sv v0 v1) lk_L_low st_L_low ml_L_198 rfl (by rw [hR]; exact ⟨Nat.le_of_ble_eq_true rfl, Nat.le_of_ble_eq_true rfl⟩) (Nat.le_trans hd (by decide)) ⟨hc, hs⟩ dL_areMarks_13 h)) (kS (S_istore (ev := fun above_8 => [(6, .int above_8), (5, .int mark_3), (0, va_rf (some sv)), (1, va_rf (some (sv + 21))), (2, va_rf (some (sv + 22))), (3, .int person_), (4, .int x_)]) X dL_areMarks_16 (by rw [hN]; decide) (fun _ => rfl))) fun above_8 =>
  (KSB_let (KXE_3 (pB := pI) wR wI (kX (L_aload_n (r := (some sv)) 2 X dL_areMarks_18 rfl rfl)) (kX (L_iload_n (x := person_) 5 X dL_areMarks_19 rfl rfl)) (kX (L_iload (x := above_8) 0 X dL_areMarks_20 rfl)) (fun v0 v1 v2 st L a b hd hc hs h => by obtain ⟨rfl, h1⟩ := lgo_of h; exact k_callH (st := st) X htr (E_L_changes sv v1 v2) lkh_changes stl_changes ml_L_201 rfl (by rw [hR]; exact ⟨Nat.le_of_ble_eq_true rfl, Nat.le_of_ble_eq_true rfl⟩) (Nat.le_trans hd (by decide)) ⟨hc, hs⟩ dL_areMarks_22 h1)) (kS (S_istore (ev := fun many_12 => [(7, .int many_12), (6, .int above_8), (5, .int mark_3), (0, va_rf (some sv)), (1, va_rf (some (sv + 21))), (2, va_rf (some (sv + 22))), (3, .int person_), (4, .int x_)]) X dL_areMarks_25 (by rw [hN]; decide) (fun _ => rfl))) fun many_12 =>
  (KSB_let (KXE_b2i (KCE_and (KCE_and (KCE_and (KCE_and (KCE_and (KCE_and (KCE_2 wI (kX (L_iload (x := mark_3) 2 X dL_areMarks_27 rfl)) (KXE_2 wR (kX (L_aload_n (r := (some (sv + 21))) 4 X dL_areMarks_29 rfl rfl)) (kX (L_iload_n (x := person_) 6 X dL_areMarks_30 rfl rfl)) (kai X dL_areMarks_31)) (kF2 (C_eq_F X dL_areMarks_32 (by decide)))) (KCE_1 (KXE_3 (pB := pI) wR wI (kX (L_aload_n (r := (some sv)) 3 X dL_areMarks_35 rfl rfl)) (kX (L_iload_n (x := person_) 6 X dL_areMarks_36 rfl rfl)) (kX (L_iload (x := mark_3) 2 X dL_areMarks_37 rfl)) (fun v0 v1 v2 st L a b hd hc hs h => by obtain ⟨rfl, h1⟩ := lgo_of h; exact k_callH (st := st) X htr (E_L_changes sv v1 v2) lkh_changes stl_changes ml_L_201 rfl (by rw [hR]; exact ⟨Nat.le_of_ble_eq_true rfl, Nat.le_of_ble_eq_true rfl⟩) (Nat.le_trans hd (by decide)) ⟨hc, hs⟩ dL_areMarks_39 h1)) (kF1 (Z_eq_F X dL_areMarks_42 (by decide))))) (KCE_2 wI (KXE_3 (pB := pI) wR wI (kX (L_aload_n (r := (some sv)) 3 X dL_areMarks_45 rfl rfl)) (kX (L_iload_n (x := person_) 6 X dL_areMarks_46 rfl rfl)) (KXE_2 wI (kX (L_iload (x := mark_3) 2 X dL_areMarks_47 rfl)) (kX (L_iconst (v := I 1) X dL_areMarks_49 (by decide))) (k2 (O_iadd X dL_areMarks_50))) (fun v0 v1 v2 st L a b hd hc hs h => by obtain ⟨rfl, h1⟩ := lgo_of h; exact k_callH (st := st) X htr (E_L_changes sv v1 v2) lkh_changes stl_changes ml_L_201 rfl (by rw [hR]; exact ⟨Nat.le_of_ble_eq_true rfl, Nat.le_of_ble_eq_true rfl⟩) (Nat.le_trans hd (by decide)) ⟨hc, hs⟩ dL_areMarks_51 h1)) (kX (L_ldc (v := I (-1000002)) X dL_areMarks_54 kd_L_21)) (kF2 (C_eq_F X dL_areMarks_56 (by decide))))) (KCE_2 wI (KXE_3 (pB := pI) wR wI (kX (L_aload_n (r := (some sv)) 3 X dL_areMarks_59 rfl rfl)) (kX (L_iload_n (x := person_) 6 X dL_areMarks_60 rfl rfl)) (kX (L_iconst (v := I (-1)) X dL_areMarks_61 (by decide))) (fun v0 v1 v2 st L a b hd hc hs h => by obtain ⟨rfl, h1⟩ := lgo_of h; exact k_callH (st := st) X htr (E_L_changes sv v1 v2) lkh_changes stl_changes ml_L_201 rfl (by rw [hR]; exact ⟨Nat.le_of_ble_eq_true rfl, Nat.le_of_ble_eq_true rfl⟩) (Nat.le_trans hd (by decide)) ⟨hc, hs⟩ dL_areMarks_62 h1)) (kX (L_ldc (v := I (-1000002)) X dL_areMarks_65 kd_L_21)) (kF2 (C_eq_F X dL_areMarks_67 (by decide))))) (KCE_2 wI (KXE_2 (pB := pI) wR (kX (L_aload_n (r := (some sv)) 3 X dL_areMarks_70 rfl rfl)) (kX (L_iconst (v := I 5) X dL_areMarks_71 (by decide))) (fun v0 v1 st L a b hd hc hs h => by obtain ⟨rfl, h1⟩ := lgo_of h; exact k_callH (st := st) X htr (E_L_mark sv v1) lkh_mark stl_mark ml_L_196 rfl (by rw [hR]; exact ⟨Nat.le_of_ble_eq_true rfl, Nat.le_of_ble_eq_true rfl⟩) (Nat.le_trans hd (by decide)) ⟨hc, hs⟩ dL_areMarks_72 h1)) (kX (L_ldc (v := I (-1000001)) X dL_areMarks_75 kd_L_18)) (kF2 (C_eq_F X dL_areMarks_77 (by decide))))) (KCE_2 wI (KXE_3 (pB := pI) wR wI (kX (L_aload_n (r := (some sv)) 3 X dL_areMarks_80 rfl rfl)) (kX (L_iconst (v := I 5) X dL_areMarks_81 (by decide))) (kX (L_iconst (v := I 0) X dL_areMarks_82 (by decide))) (fun v0 v1 v2 st L a b hd hc hs h => by obtain ⟨rfl, h1⟩ := lgo_of h; exact k_callH (st := st) X htr (E_L_changes sv v1 v2) lkh_changes stl_changes ml_L_201 rfl (by rw [hR]; exact ⟨Nat.le_of_ble_eq_true rfl, Nat.le_of_ble_eq_true rfl⟩) (Nat.le_trans hd (by decide)) ⟨hc, hs⟩ dL_areMarks_83 h1)) (kX (L_ldc (v := I (-1000001)) X dL_areMarks_86 kd_L_18)) (kF2 (C_eq_F X dL_areMarks_88 (by decide))))) (KCE_2 wI (KXE_4 (pB := pI) wR wI wI (kX (L_aload_n (r := (some sv)) 3 X dL_areMarks_91 rfl rfl)) (kX (L_iconst (v := I (-1)) X dL_areMarks_92 (by decide))) (kX (L_iconst (v := I 0) X dL_areMarks_93 (by decide))) (kX (L_iconst (v := I 0) X dL_areMarks_94 (by decide))) (fun v0 v1 v2 v3 st L a b hd hc hs h => by obtain ⟨rfl, h1⟩ := lgo_of h; exact k_callH (st := st) X htr (E_L_changeAt sv v1 v2 v3) lkh_changeAt stl_changeAt ml_L_203 rfl (by rw [hR]; exact ⟨Nat.le_of_ble_eq_true rfl, Nat.le_of_ble_eq_true rfl⟩) (Nat.le_trans hd (by decide)) ⟨hc, hs⟩ dL_areMarks_95 h1)) (kX (L_ldc (v := I (-1000001)) X dL_areMarks_98 kd_L_18)) (kF2 (C_eq_F X dL_areMarks_100 (by decide))))) (kB (S_b1 X dL_areMarks_103 dL_areMarks_104 (by decide))) (kB (S_b0 X dL_areMarks_107))) (kS (S_istore (ev := fun is_55 => [(8, .int is_55), (7, .int many_12), (6, .int above_8), (5, .int mark_3), (0, va_rf (some sv)), (1, va_rf (some (sv + 21))), (2, va_rf (some (sv + 22))), (3, .int person_), (4, .int x_)]) X dL_areMarks_108 (by rw [hN]; decide) (fun _ => rfl))) fun is_55 =>
  (KSB_if (KCE_2 wI (kX (L_iload (x := many_12) 1 X dL_areMarks_110 rfl)) (kX (L_ldc (v := I (-1000003)) X dL_areMarks_112 kd_L_38)) (kF2 (C_eq_F X dL_areMarks_114 (by decide))))
  (kretZ X C hr dL_areMarks_147 (KXE_b2i (KCE_and (KCE_and (KCE_1 (kX (L_iload (x := is_55) 0 X dL_areMarks_117 rfl)) (kF1 (Z_ne_F X dL_areMarks_119 (by decide)))) (KCE_2 wI (kX (L_iload (x := above_8) 2 X dL_areMarks_122 rfl)) (kX (L_iload (x := mark_3) 3 X dL_areMarks_124 rfl)) (kF2 (C_lt_F X dL_areMarks_126 (by decide))))) (KCE_2 wI (KXE_4 (pB := pI) wR wI wI (kX (L_aload_n (r := (some sv)) 4 X dL_areMarks_129 rfl rfl)) (kX (L_iload_n (x := person_) 7 X dL_areMarks_130 rfl rfl)) (kX (L_iload (x := above_8) 2 X dL_areMarks_131 rfl)) (kX (L_iconst (v := I 0) X dL_areMarks_133 (by decide))) (fun v0 v1 v2 v3 st L a b hd hc hs h => by obtain ⟨rfl, h1⟩ := lgo_of h; exact k_callH (st := st) X htr (E_L_changeAt sv v1 v2 v3) lkh_changeAt stl_changeAt ml_L_203 rfl (by rw [hR]; exact ⟨Nat.le_of_ble_eq_true rfl, Nat.le_of_ble_eq_true rfl⟩) (Nat.le_trans hd (by decide)) ⟨hc, hs⟩ dL_areMarks_134 h1)) (kX (L_ldc (v := I (-1000003)) X dL_areMarks_137 kd_L_38)) (kF2 (C_eq_F X dL_areMarks_139 (by decide))))) (kB (S_b1 X dL_areMarks_142 dL_areMarks_143 (by decide))) (kB (S_b0 X dL_areMarks_146))))
  (KSB_let (kX (L_iconst (v := I 0) X dL_areMarks_148 (by decide))) (kS (S_istore (ev := fun set_70 => [(9, .int set_70), (8, .int is_55), (7, .int many_12), (6, .int above_8), (5, .int mark_3), (0, va_rf (some sv)), (1, va_rf (some (sv + 21))), (2, va_rf (some (sv + 22))), (3, .int person_), (4, .int x_)]) X dL_areMarks_149 (by rw [hN]; decide) (fun _ => rfl))) fun set_70 =>
  (KSB_let (kX (L_iconst (v := I 0) X dL_areMarks_151 (by decide))) (kS (S_istore (ev := fun n_71 => [(10, .int n_71), (9, .int set_70), (8, .int is_55), (7, .int many_12), (6, .int above_8), (5, .int mark_3), (0, va_rf (some sv)), (1, va_rf (some (sv + 21))), (2, va_rf (some (sv + 22))), (3, .int person_), (4, .int x_)]) X dL_areMarks_152 (by rw [hN]; decide) (fun _ => rfl))) fun n_71 =>
  (KSB_seq (KST_loop (σ := Int32 × Int32) (upd := (fun (s : Int32 × Int32) => [(10, .int s.2), (9, .int s.1), (8, .int is_55), (7, .int many_12), (6, .int above_8), (5, .int mark_3), (0, va_rf (some sv)), (1, va_rf (some (sv + 21))), (2, va_rf (some (sv + 22))), (3, .int person_), (4, .int x_)])) (s0 := (set_70, n_71)) (n := 9) (fun L a b h => GL_sub [0, 1, 2, 3, 4, 5, 6, 7, 8, 9, 10] rfl h)
  (fun s72 => (KCE_2 wI (kX (L_iload (x := s72.2) 0 X dL_areMarks_154 rfl)) (kX (L_iload (x := many_12) 3 X dL_areMarks_156 rfl)) (kF2 (C_lt_F X dL_areMarks_158 (by decide)))))
  (fun s72 => (KST_post (KST_let (KXE_2 wI (kX (L_iload (x := s72.1) 1 X dL_areMarks_161 rfl)) (KXE_2 wI (kX (L_iconst (v := I 1) X dL_areMarks_163 (by decide))) (KXE_4 (pB := pI) wR wI wI (kX (L_aload_n (r := (some sv)) 6 X dL_areMarks_164 rfl rfl)) (kX (L_iload_n (x := person_) 9 X dL_areMarks_165 rfl rfl)) (kX (L_iload (x := above_8) 4 X dL_areMarks_166 rfl)) (kX (L_iload (x := s72.2) 0 X dL_areMarks_168 rfl)) (fun v0 v1 v2 v3 st L a b hd hc hs h => by obtain ⟨rfl, h1⟩ := lgo_of h; exact k_callH (st := st) X htr (E_L_changeAt sv v1 v2 v3) lkh_changeAt stl_changeAt ml_L_203 rfl (by rw [hR]; exact ⟨Nat.le_of_ble_eq_true rfl, Nat.le_of_ble_eq_true rfl⟩) (Nat.le_trans hd (by decide)) ⟨hc, hs⟩ dL_areMarks_170 h1)) (k2 (O_ishl X dL_areMarks_173))) (k2 (O_ior X dL_areMarks_174))) (kS (S_istore (ev := fun set_83 => [(9, .int set_83), (10, .int s72.2), (8, .int is_55), (7, .int many_12), (6, .int above_8), (5, .int mark_3), (0, va_rf (some sv)), (1, va_rf (some (sv + 21))), (2, va_rf (some (sv + 22))), (3, .int person_), (4, .int x_)]) X dL_areMarks_175 (by rw [hN]; decide) (fun _ => rfl))) fun set_83 =>
  (KST_pre (env' := [(10, .int (s72.2 + 1)), (9, .int set_83), (8, .int is_55), (7, .int many_12), (6, .int above_8), (5, .int mark_3), (0, va_rf (some sv)), (1, va_rf (some (sv + 21))), (2, va_rf (some (sv + 22))), (3, .int person_), (4, .int x_)]) (kP (S_iinc 1 X dL_areMarks_177 rfl rfl (by rw [hN]; decide) rfl))
  (KST_done (upd := (fun (s : Int32 × Int32) => [(10, .int s.2), (9, .int s.1), (8, .int is_55), (7, .int many_12), (6, .int above_8), (5, .int mark_3), (0, va_rf (some sv)), (1, va_rf (some (sv + 21))), (2, va_rf (some (sv + 22))), (3, .int person_), (4, .int x_)])) (s := (set_83, (s72.2 + 1))) [0, 1, 2, 3, 4, 5, 6, 7, 8, 9, 10] rfl))) fun _ L a b h => kJ (S_goto X dL_areMarks_180 (by decide)) [] L a b h))) fun s84 =>
  (KSB_let (kX (L_iconst (v := I 0) X dL_areMarks_183 (by decide))) (kS (S_istore (ev := fun count_85 => [(10, .int count_85), (9, .int s84.1), (8, .int is_55), (7, .int many_12), (6, .int above_8), (5, .int mark_3), (0, va_rf (some sv)), (1, va_rf (some (sv + 21))), (2, va_rf (some (sv + 22))), (3, .int person_), (4, .int x_)]) X dL_areMarks_184 (by rw [hN]; decide) (fun _ => rfl))) fun count_85 =>
  (KSB_let (kX (L_iconst (v := I 0) X dL_areMarks_186 (by decide))) (kS (S_istore (ev := fun n_86 => [(11, .int n_86), (10, .int count_85), (9, .int s84.1), (8, .int is_55), (7, .int many_12), (6, .int above_8), (5, .int mark_3), (0, va_rf (some sv)), (1, va_rf (some (sv + 21))), (2, va_rf (some (sv + 22))), (3, .int person_), (4, .int x_)]) X dL_areMarks_187 (by rw [hN]; decide) (fun _ => rfl))) fun n_86 =>
  (KSB_seq (KST_loop (σ := Int32 × Int32) (upd := (fun (s : Int32 × Int32) => [(11, .int s.2), (10, .int s.1), (9, .int s84.1), (8, .int is_55), (7, .int many_12), (6, .int above_8), (5, .int mark_3), (0, va_rf (some sv)), (1, va_rf (some (sv + 21))), (2, va_rf (some (sv + 22))), (3, .int person_), (4, .int x_)])) (s0 := (count_85, n_86)) (n := 9) (fun L a b h => GL_sub [0, 1, 2, 3, 4, 5, 6, 7, 8, 9, 10, 11] rfl h)
  (fun s87 => (KCE_2 wI (kX (L_iload (x := s87.2) 0 X dL_areMarks_189 rfl)) (KXE_2 wR (kX (L_aload_n (r := (some (sv + 22))) 9 X dL_areMarks_191 rfl rfl)) (kX (L_iconst (v := I 0) X dL_areMarks_192 (by decide))) (kai X dL_areMarks_193)) (kF2 (C_lt_F X dL_areMarks_194 (by decide)))))
  (fun s87 => (KST_post (KST_let (KXE_2 wI (kX (L_iload (x := s87.1) 1 X dL_areMarks_197 rfl)) (KXE_2 wI (KXE_2 wI (kX (L_iload (x := s84.1) 2 X dL_areMarks_199 rfl)) (kX (L_iload (x := s87.2) 0 X dL_areMarks_201 rfl)) (k2 (O_ishr X dL_areMarks_203))) (kX (L_iconst (v := I 1) X dL_areMarks_204 (by decide))) (k2 (O_iand X dL_areMarks_205))) (k2 (O_iadd X dL_areMarks_206))) (kS (S_istore (ev := fun count_98 => [(10, .int count_98), (11, .int s87.2), (9, .int s84.1), (8, .int is_55), (7, .int many_12), (6, .int above_8), (5, .int mark_3), (0, va_rf (some sv)), (1, va_rf (some (sv + 21))), (2, va_rf (some (sv + 22))), (3, .int person_), (4, .int x_)]) X dL_areMarks_207 (by rw [hN]; decide) (fun _ => rfl))) fun count_98 =>
  (KST_pre (env' := [(11, .int (s87.2 + 1)), (10, .int count_98), (9, .int s84.1), (8, .int is_55), (7, .int many_12), (6, .int above_8), (5, .int mark_3), (0, va_rf (some sv)), (1, va_rf (some (sv + 21))), (2, va_rf (some (sv + 22))), (3, .int person_), (4, .int x_)]) (kP (S_iinc 1 X dL_areMarks_209 rfl rfl (by rw [hN]; decide) rfl))
  (KST_done (upd := (fun (s : Int32 × Int32) => [(11, .int s.2), (10, .int s.1), (9, .int s84.1), (8, .int is_55), (7, .int many_12), (6, .int above_8), (5, .int mark_3), (0, va_rf (some sv)), (1, va_rf (some (sv + 21))), (2, va_rf (some (sv + 22))), (3, .int person_), (4, .int x_)])) (s := (count_98, (s87.2 + 1))) [0, 1, 2, 3, 4, 5, 6, 7, 8, 9, 10, 11] rfl))) fun _ L a b h => kJ (S_goto X dL_areMarks_212 (by decide)) [] L a b h))) fun s99 =>
  (kretZ X C hr dL_areMarks_292 (KXE_b2i (KCE_and (KCE_and (KCE_and (KCE_and (KCE_and (KCE_1 (kX (L_iload (x := is_55) 3 X dL_areMarks_215 rfl)) (kF1 (Z_ne_F X dL_areMarks_217 (by decide)))) (KCE_1 (kX (L_iload (x := many_12) 4 X dL_areMarks_220 rfl)) (kF1 (Z_ge_F X dL_areMarks_222 (by decide))))) (KCE_2 wI (kX (L_iload (x := many_12) 4 X dL_areMarks_225 rfl)) (KXE_2 wR (kX (L_aload_n (r := (some (sv + 22))) 9 X dL_areMarks_227 rfl rfl)) (kX (L_iconst (v := I 0) X dL_areMarks_228 (by decide))) (kai X dL_areMarks_229)) (kF2 (C_le_F X dL_areMarks_230 (by decide))))) (KCE_2 wI (kX (L_iload (x := s99.1) 1 X dL_areMarks_233 rfl)) (kX (L_iload (x := many_12) 4 X dL_areMarks_235 rfl)) (kF2 (C_eq_F X dL_areMarks_237 (by decide))))) (KCE_2 wI (KXE_4 (pB := pI) wR wI wI (kX (L_aload_n (r := (some sv)) 7 X dL_areMarks_240 rfl rfl)) (kX (L_iload_n (x := person_) 10 X dL_areMarks_241 rfl rfl)) (kX (L_iload (x := above_8) 5 X dL_areMarks_242 rfl)) (kX (L_iload (x := many_12) 4 X dL_areMarks_244 rfl)) (fun v0 v1 v2 v3 st L a b hd hc hs h => by obtain ⟨rfl, h1⟩ := lgo_of h; exact k_callH (st := st) X htr (E_L_changeAt sv v1 v2 v3) lkh_changeAt stl_changeAt ml_L_203 rfl (by rw [hR]; exact ⟨Nat.le_of_ble_eq_true rfl, Nat.le_of_ble_eq_true rfl⟩) (Nat.le_trans hd (by decide)) ⟨hc, hs⟩ dL_areMarks_246 h1)) (kX (L_ldc (v := I (-1000001)) X dL_areMarks_249 kd_L_18)) (kF2 (C_eq_F X dL_areMarks_251 (by decide))))) (KCE_or (KCE_or (KCE_1 (kX (L_iload (x := above_8) 5 X dL_areMarks_254 rfl)) (kF1 (Z_eq_T X dL_areMarks_256 (by decide)))) (KCE_2 wI (KXE_3 (pB := pI) wR wI (kX (L_aload_n (r := (some sv)) 7 X dL_areMarks_259 rfl rfl)) (kX (L_iload_n (x := person_) 10 X dL_areMarks_260 rfl rfl)) (KXE_2 wI (kX (L_iload (x := above_8) 5 X dL_areMarks_261 rfl)) (kX (L_iconst (v := I 1) X dL_areMarks_263 (by decide))) (k2 (O_isub X dL_areMarks_264))) (fun v0 v1 v2 st L a b hd hc hs h => by obtain ⟨rfl, h1⟩ := lgo_of h; exact k_callH (st := st) X htr (E_L_changes sv v1 v2) lkh_changes stl_changes ml_L_201 rfl (by rw [hR]; exact ⟨Nat.le_of_ble_eq_true rfl, Nat.le_of_ble_eq_true rfl⟩) (Nat.le_trans hd (by decide)) ⟨hc, hs⟩ dL_areMarks_265 h1)) (kX (L_ldc (v := I (-1000003)) X dL_areMarks_268 kd_L_38)) (kF2 (C_eq_T X dL_areMarks_270 (by decide))))) (KCE_2 wI (KXE_3 (pB := pI) wR wI (kX (L_aload_n (r := (some sv)) 7 X dL_areMarks_273 rfl rfl)) (kX (L_iload_n (x := person_) 10 X dL_areMarks_274 rfl rfl)) (KXE_2 wI (kX (L_iload (x := above_8) 5 X dL_areMarks_275 rfl)) (kX (L_iconst (v := I 1) X dL_areMarks_277 (by decide))) (k2 (O_isub X dL_areMarks_278))) (fun v0 v1 v2 st L a b hd hc hs h => by obtain ⟨rfl, h1⟩ := lgo_of h; exact k_callH (st := st) X htr (E_L_changes sv v1 v2) lkh_changes stl_changes ml_L_201 rfl (by rw [hR]; exact ⟨Nat.le_of_ble_eq_true rfl, Nat.le_of_ble_eq_true rfl⟩) (Nat.le_trans hd (by decide)) ⟨hc, hs⟩ dL_areMarks_279 h1)) (kX (L_iload (x := many_12) 4 X dL_areMarks_282 rfl)) (kF2 (C_ge_F X dL_areMarks_284 (by decide)))))) (kB (S_b1 X dL_areMarks_287 dL_areMarks_288 (by decide))) (kB (S_b0 X dL_areMarks_291))))))))))))))) h0 (by rw [hR]; exact Nat.le_of_ble_eq_true rfl) (by rw [hR]; exact Nat.le_of_ble_eq_true rfl)
theorem dL_isSo_0 : decode cL_isSo 0 = .ok (.aload_n 0, 1) := by decide +kernel
theorem dL_isSo_1 : decode cL_isSo 1 = .ok (.invokevirtual 205, 3) := by decide +kernel
theorem dL_isSo_4 : decode cL_isSo 4 = .ok (.aload_n 3, 1) := by decide +kernel
theorem dL_isSo_5 : decode cL_isSo 5 = .ok (.iconst 0, 1) := by decide +kernel
theorem dL_isSo_6 : decode cL_isSo 6 = .ok (.iaload, 1) := by decide +kernel
theorem dL_isSo_7 : decode cL_isSo 7 = .ok (.if_icmp .ne 59, 3) := by decide +kernel
theorem dL_isSo_10 : decode cL_isSo 10 = .ok (.aload_n 0, 1) := by decide +kernel
theorem dL_isSo_11 : decode cL_isSo 11 = .ok (.invokevirtual 209, 3) := by decide +kernel
theorem dL_isSo_14 : decode cL_isSo 14 = .ok (.aload_n 3, 1) := by decide +kernel
theorem dL_isSo_15 : decode cL_isSo 15 = .ok (.iconst 1, 1) := by decide +kernel
theorem dL_isSo_16 : decode cL_isSo 16 = .ok (.iaload, 1) := by decide +kernel
theorem dL_isSo_17 : decode cL_isSo 17 = .ok (.if_icmp .ne 49, 3) := by decide +kernel
theorem dL_isSo_20 : decode cL_isSo 20 = .ok (.aload_n 0, 1) := by decide +kernel
theorem dL_isSo_21 : decode cL_isSo 21 = .ok (.iload 4, 2) := by decide +kernel
theorem dL_isSo_23 : decode cL_isSo 23 = .ok (.iconst 3, 1) := by decide +kernel
theorem dL_isSo_24 : decode cL_isSo 24 = .ok (.invokestatic 198, 3) := by decide +kernel
theorem dL_isSo_27 : decode cL_isSo 27 = .ok (.iload 4, 2) := by decide +kernel
theorem dL_isSo_29 : decode cL_isSo 29 = .ok (.iconst 3, 1) := by decide +kernel
theorem dL_isSo_30 : decode cL_isSo 30 = .ok (.ishr, 1) := by decide +kernel
theorem dL_isSo_31 : decode cL_isSo 31 = .ok (.sipush 1400, 3) := by decide +kernel
theorem dL_isSo_34 : decode cL_isSo 34 = .ok (.invokestatic 198, 3) := by decide +kernel
theorem dL_isSo_37 : decode cL_isSo 37 = .ok (.invokestatic 212, 3) := by decide +kernel
theorem dL_isSo_40 : decode cL_isSo 40 = .ok (.ifCond .eq 26, 3) := by decide +kernel
theorem dL_isSo_43 : decode cL_isSo 43 = .ok (.aload_n 0, 1) := by decide +kernel
theorem dL_isSo_44 : decode cL_isSo 44 = .ok (.aload_n 2, 1) := by decide +kernel
theorem dL_isSo_45 : decode cL_isSo 45 = .ok (.aload_n 3, 1) := by decide +kernel
theorem dL_isSo_46 : decode cL_isSo 46 = .ok (.iload 4, 2) := by decide +kernel
theorem dL_isSo_48 : decode cL_isSo 48 = .ok (.iconst 5, 1) := by decide +kernel
theorem dL_isSo_49 : decode cL_isSo 49 = .ok (.invokestatic 198, 3) := by decide +kernel
theorem dL_isSo_52 : decode cL_isSo 52 = .ok (.iload 4, 2) := by decide +kernel
theorem dL_isSo_54 : decode cL_isSo 54 = .ok (.iconst 5, 1) := by decide +kernel
theorem dL_isSo_55 : decode cL_isSo 55 = .ok (.ishr, 1) := by decide +kernel
theorem dL_isSo_56 : decode cL_isSo 56 = .ok (.invokestatic 216, 3) := by decide +kernel
theorem dL_isSo_59 : decode cL_isSo 59 = .ok (.ifCond .eq 7, 3) := by decide +kernel
theorem dL_isSo_62 : decode cL_isSo 62 = .ok (.iconst 1, 1) := by decide +kernel
theorem dL_isSo_63 : decode cL_isSo 63 = .ok (.goto 4, 3) := by decide +kernel
theorem dL_isSo_66 : decode cL_isSo 66 = .ok (.iconst 0, 1) := by decide +kernel
theorem dL_isSo_67 : decode cL_isSo 67 = .ok (.istore 5, 2) := by decide +kernel
theorem dL_isSo_69 : decode cL_isSo 69 = .ok (.iconst 0, 1) := by decide +kernel
theorem dL_isSo_70 : decode cL_isSo 70 = .ok (.istore 6, 2) := by decide +kernel
theorem dL_isSo_72 : decode cL_isSo 72 = .ok (.iload 6, 2) := by decide +kernel
theorem dL_isSo_74 : decode cL_isSo 74 = .ok (.aload_n 3, 1) := by decide +kernel
theorem dL_isSo_75 : decode cL_isSo 75 = .ok (.iconst 0, 1) := by decide +kernel
theorem dL_isSo_76 : decode cL_isSo 76 = .ok (.iaload, 1) := by decide +kernel
theorem dL_isSo_77 : decode cL_isSo 77 = .ok (.if_icmp .ge 78, 3) := by decide +kernel
theorem dL_isSo_80 : decode cL_isSo 80 = .ok (.iload 5, 2) := by decide +kernel
theorem dL_isSo_82 : decode cL_isSo 82 = .ok (.ifCond .eq 73, 3) := by decide +kernel
theorem dL_isSo_85 : decode cL_isSo 85 = .ok (.aload_n 0, 1) := by decide +kernel
theorem dL_isSo_86 : decode cL_isSo 86 = .ok (.aload_n 1, 1) := by decide +kernel
theorem dL_isSo_87 : decode cL_isSo 87 = .ok (.iload 4, 2) := by decide +kernel
theorem dL_isSo_89 : decode cL_isSo 89 = .ok (.bipush 7, 2) := by decide +kernel
theorem dL_isSo_91 : decode cL_isSo 91 = .ok (.ishr, 1) := by decide +kernel
theorem dL_isSo_92 : decode cL_isSo 92 = .ok (.iconst 5, 1) := by decide +kernel
theorem dL_isSo_93 : decode cL_isSo 93 = .ok (.invokestatic 198, 3) := by decide +kernel
theorem dL_isSo_96 : decode cL_isSo 96 = .ok (.iload 6, 2) := by decide +kernel
theorem dL_isSo_98 : decode cL_isSo 98 = .ok (.invokestatic 220, 3) := by decide +kernel
theorem dL_isSo_101 : decode cL_isSo 101 = .ok (.ifCond .eq 45, 3) := by decide +kernel
theorem dL_isSo_104 : decode cL_isSo 104 = .ok (.aload_n 0, 1) := by decide +kernel
theorem dL_isSo_105 : decode cL_isSo 105 = .ok (.aload_n 1, 1) := by decide +kernel
theorem dL_isSo_106 : decode cL_isSo 106 = .ok (.aload_n 1, 1) := by decide +kernel
theorem dL_isSo_107 : decode cL_isSo 107 = .ok (.iload 6, 2) := by decide +kernel
theorem dL_isSo_109 : decode cL_isSo 109 = .ok (.iaload, 1) := by decide +kernel
theorem dL_isSo_110 : decode cL_isSo 110 = .ok (.bipush 8, 2) := by decide +kernel
theorem dL_isSo_112 : decode cL_isSo 112 = .ok (.irem, 1) := by decide +kernel
theorem dL_isSo_113 : decode cL_isSo 113 = .ok (.iload 6, 2) := by decide +kernel
theorem dL_isSo_115 : decode cL_isSo 115 = .ok (.invokestatic 220, 3) := by decide +kernel
theorem dL_isSo_118 : decode cL_isSo 118 = .ok (.ifCond .eq 28, 3) := by decide +kernel
theorem dL_isSo_121 : decode cL_isSo 121 = .ok (.aload_n 0, 1) := by decide +kernel
theorem dL_isSo_122 : decode cL_isSo 122 = .ok (.aload_n 1, 1) := by decide +kernel
theorem dL_isSo_123 : decode cL_isSo 123 = .ok (.aload_n 3, 1) := by decide +kernel
theorem dL_isSo_124 : decode cL_isSo 124 = .ok (.iload 6, 2) := by decide +kernel
theorem dL_isSo_126 : decode cL_isSo 126 = .ok (.iload 4, 2) := by decide +kernel
theorem dL_isSo_128 : decode cL_isSo 128 = .ok (.bipush 9, 2) := by decide +kernel
theorem dL_isSo_130 : decode cL_isSo 130 = .ok (.ishr, 1) := by decide +kernel
theorem dL_isSo_131 : decode cL_isSo 131 = .ok (.bipush 60, 2) := by decide +kernel
theorem dL_isSo_133 : decode cL_isSo 133 = .ok (.invokestatic 198, 3) := by decide +kernel
theorem dL_isSo_136 : decode cL_isSo 136 = .ok (.invokestatic 224, 3) := by decide +kernel
theorem dL_isSo_139 : decode cL_isSo 139 = .ok (.ifCond .eq 7, 3) := by decide +kernel
theorem dL_isSo_142 : decode cL_isSo 142 = .ok (.iconst 1, 1) := by decide +kernel
theorem dL_isSo_143 : decode cL_isSo 143 = .ok (.goto 4, 3) := by decide +kernel
theorem dL_isSo_146 : decode cL_isSo 146 = .ok (.iconst 0, 1) := by decide +kernel
theorem dL_isSo_147 : decode cL_isSo 147 = .ok (.istore 5, 2) := by decide +kernel
theorem dL_isSo_149 : decode cL_isSo 149 = .ok (.iinc 6 1, 3) := by decide +kernel
theorem dL_isSo_152 : decode cL_isSo 152 = .ok (.goto (-80), 3) := by decide +kernel
theorem dL_isSo_155 : decode cL_isSo 155 = .ok (.iload 5, 2) := by decide +kernel
theorem dL_isSo_157 : decode cL_isSo 157 = .ok (.ifCond .eq 177, 3) := by decide +kernel
theorem dL_isSo_160 : decode cL_isSo 160 = .ok (.aload_n 0, 1) := by decide +kernel
theorem dL_isSo_161 : decode cL_isSo 161 = .ok (.iconst 1, 1) := by decide +kernel
theorem dL_isSo_162 : decode cL_isSo 162 = .ok (.iload 4, 2) := by decide +kernel
theorem dL_isSo_164 : decode cL_isSo 164 = .ok (.iconst 4, 1) := by decide +kernel
theorem dL_isSo_165 : decode cL_isSo 165 = .ok (.ishr, 1) := by decide +kernel
theorem dL_isSo_166 : decode cL_isSo 166 = .ok (.bipush 31, 2) := by decide +kernel
theorem dL_isSo_168 : decode cL_isSo 168 = .ok (.invokestatic 198, 3) := by decide +kernel
theorem dL_isSo_171 : decode cL_isSo 171 = .ok (.iadd, 1) := by decide +kernel
theorem dL_isSo_172 : decode cL_isSo 172 = .ok (.iload 4, 2) := by decide +kernel
theorem dL_isSo_174 : decode cL_isSo 174 = .ok (.bipush 11, 2) := by decide +kernel
theorem dL_isSo_176 : decode cL_isSo 176 = .ok (.ishr, 1) := by decide +kernel
theorem dL_isSo_177 : decode cL_isSo 177 = .ok (.sipush 1548, 3) := by decide +kernel
theorem dL_isSo_180 : decode cL_isSo 180 = .ok (.invokestatic 198, 3) := by decide +kernel
theorem dL_isSo_183 : decode cL_isSo 183 = .ok (.bipush 48, 2) := by decide +kernel
theorem dL_isSo_185 : decode cL_isSo 185 = .ok (.isub, 1) := by decide +kernel
theorem dL_isSo_186 : decode cL_isSo 186 = .ok (.iconst 1, 1) := by decide +kernel
theorem dL_isSo_187 : decode cL_isSo 187 = .ok (.iload 4, 2) := by decide +kernel
theorem dL_isSo_189 : decode cL_isSo 189 = .ok (.bipush 12, 2) := by decide +kernel
theorem dL_isSo_191 : decode cL_isSo 191 = .ok (.invokestatic 198, 3) := by decide +kernel
theorem dL_isSo_194 : decode cL_isSo 194 = .ok (.iadd, 1) := by decide +kernel
theorem dL_isSo_195 : decode cL_isSo 195 = .ok (.invokestatic 227, 3) := by decide +kernel
theorem dL_isSo_198 : decode cL_isSo 198 = .ok (.ifCond .eq 136, 3) := by decide +kernel
theorem dL_isSo_201 : decode cL_isSo 201 = .ok (.aload_n 0, 1) := by decide +kernel
theorem dL_isSo_202 : decode cL_isSo 202 = .ok (.iconst 0, 1) := by decide +kernel
theorem dL_isSo_203 : decode cL_isSo 203 = .ok (.aload_n 3, 1) := by decide +kernel
theorem dL_isSo_204 : decode cL_isSo 204 = .ok (.iconst 0, 1) := by decide +kernel
theorem dL_isSo_205 : decode cL_isSo 205 = .ok (.iaload, 1) := by decide +kernel
theorem dL_isSo_206 : decode cL_isSo 206 = .ok (.invokestatic 162, 3) := by decide +kernel
theorem dL_isSo_209 : decode cL_isSo 209 = .ok (.ldc 18, 2) := by decide +kernel
theorem dL_isSo_211 : decode cL_isSo 211 = .ok (.if_icmp .ne 123, 3) := by decide +kernel
theorem dL_isSo_214 : decode cL_isSo 214 = .ok (.aload_n 0, 1) := by decide +kernel
theorem dL_isSo_215 : decode cL_isSo 215 = .ok (.iconst 5, 1) := by decide +kernel
theorem dL_isSo_216 : decode cL_isSo 216 = .ok (.iconst 0, 1) := by decide +kernel
theorem dL_isSo_217 : decode cL_isSo 217 = .ok (.invokestatic 160, 3) := by decide +kernel
theorem dL_isSo_220 : decode cL_isSo 220 = .ok (.ldc 18, 2) := by decide +kernel
theorem dL_isSo_222 : decode cL_isSo 222 = .ok (.if_icmp .ne 112, 3) := by decide +kernel
theorem dL_isSo_225 : decode cL_isSo 225 = .ok (.aload_n 0, 1) := by decide +kernel
theorem dL_isSo_226 : decode cL_isSo 226 = .ok (.iconst 0, 1) := by decide +kernel
theorem dL_isSo_227 : decode cL_isSo 227 = .ok (.aload_n 3, 1) := by decide +kernel
theorem dL_isSo_228 : decode cL_isSo 228 = .ok (.iconst 0, 1) := by decide +kernel
theorem dL_isSo_229 : decode cL_isSo 229 = .ok (.iaload, 1) := by decide +kernel
theorem dL_isSo_230 : decode cL_isSo 230 = .ok (.invokestatic 164, 3) := by decide +kernel
theorem dL_isSo_233 : decode cL_isSo 233 = .ok (.ldc 18, 2) := by decide +kernel
theorem dL_isSo_235 : decode cL_isSo 235 = .ok (.if_icmp .ne 99, 3) := by decide +kernel
theorem dL_isSo_238 : decode cL_isSo 238 = .ok (.aload_n 0, 1) := by decide +kernel
theorem dL_isSo_239 : decode cL_isSo 239 = .ok (.aload_n 3, 1) := by decide +kernel
theorem dL_isSo_240 : decode cL_isSo 240 = .ok (.iconst 0, 1) := by decide +kernel
theorem dL_isSo_241 : decode cL_isSo 241 = .ok (.iaload, 1) := by decide +kernel
theorem dL_isSo_242 : decode cL_isSo 242 = .ok (.iconst 0, 1) := by decide +kernel
theorem dL_isSo_243 : decode cL_isSo 243 = .ok (.invokestatic 175, 3) := by decide +kernel
theorem dL_isSo_246 : decode cL_isSo 246 = .ok (.ldc 18, 2) := by decide +kernel
theorem dL_isSo_248 : decode cL_isSo 248 = .ok (.if_icmp .ne 86, 3) := by decide +kernel
theorem dL_isSo_251 : decode cL_isSo 251 = .ok (.aload_n 0, 1) := by decide +kernel
theorem dL_isSo_252 : decode cL_isSo 252 = .ok (.aload_n 3, 1) := by decide +kernel
theorem dL_isSo_253 : decode cL_isSo 253 = .ok (.iconst 0, 1) := by decide +kernel
theorem dL_isSo_254 : decode cL_isSo 254 = .ok (.iaload, 1) := by decide +kernel
theorem dL_isSo_255 : decode cL_isSo 255 = .ok (.invokestatic 190, 3) := by decide +kernel
theorem dL_isSo_258 : decode cL_isSo 258 = .ok (.ldc 18, 2) := by decide +kernel
theorem dL_isSo_260 : decode cL_isSo 260 = .ok (.if_icmp .ne 74, 3) := by decide +kernel
theorem dL_isSo_263 : decode cL_isSo 263 = .ok (.aload_n 0, 1) := by decide +kernel
theorem dL_isSo_264 : decode cL_isSo 264 = .ok (.iconst (-1), 1) := by decide +kernel
theorem dL_isSo_265 : decode cL_isSo 265 = .ok (.invokestatic 181, 3) := by decide +kernel
theorem dL_isSo_268 : decode cL_isSo 268 = .ok (.ldc 18, 2) := by decide +kernel
theorem dL_isSo_270 : decode cL_isSo 270 = .ok (.if_icmp .ne 64, 3) := by decide +kernel
theorem dL_isSo_273 : decode cL_isSo 273 = .ok (.aload_n 0, 1) := by decide +kernel
theorem dL_isSo_274 : decode cL_isSo 274 = .ok (.aload_n 3, 1) := by decide +kernel
theorem dL_isSo_275 : decode cL_isSo 275 = .ok (.iconst 1, 1) := by decide +kernel
theorem dL_isSo_276 : decode cL_isSo 276 = .ok (.iaload, 1) := by decide +kernel
theorem dL_isSo_277 : decode cL_isSo 277 = .ok (.invokestatic 231, 3) := by decide +kernel
theorem dL_isSo_280 : decode cL_isSo 280 = .ok (.ldc 18, 2) := by decide +kernel
theorem dL_isSo_282 : decode cL_isSo 282 = .ok (.if_icmp .ne 52, 3) := by decide +kernel
theorem dL_isSo_285 : decode cL_isSo 285 = .ok (.aload_n 0, 1) := by decide +kernel
theorem dL_isSo_286 : decode cL_isSo 286 = .ok (.iconst (-1), 1) := by decide +kernel
theorem dL_isSo_287 : decode cL_isSo 287 = .ok (.invokestatic 186, 3) := by decide +kernel
theorem dL_isSo_290 : decode cL_isSo 290 = .ok (.ldc 18, 2) := by decide +kernel
theorem dL_isSo_292 : decode cL_isSo 292 = .ok (.if_icmp .ne 42, 3) := by decide +kernel
theorem dL_isSo_295 : decode cL_isSo 295 = .ok (.aload_n 0, 1) := by decide +kernel
theorem dL_isSo_296 : decode cL_isSo 296 = .ok (.aload_n 3, 1) := by decide +kernel
theorem dL_isSo_297 : decode cL_isSo 297 = .ok (.iconst 1, 1) := by decide +kernel
theorem dL_isSo_298 : decode cL_isSo 298 = .ok (.iaload, 1) := by decide +kernel
theorem dL_isSo_299 : decode cL_isSo 299 = .ok (.invokestatic 188, 3) := by decide +kernel
theorem dL_isSo_302 : decode cL_isSo 302 = .ok (.ldc 18, 2) := by decide +kernel
theorem dL_isSo_304 : decode cL_isSo 304 = .ok (.if_icmp .ne 30, 3) := by decide +kernel
theorem dL_isSo_307 : decode cL_isSo 307 = .ok (.aload_n 0, 1) := by decide +kernel
theorem dL_isSo_308 : decode cL_isSo 308 = .ok (.aload_n 3, 1) := by decide +kernel
theorem dL_isSo_309 : decode cL_isSo 309 = .ok (.iconst 1, 1) := by decide +kernel
theorem dL_isSo_310 : decode cL_isSo 310 = .ok (.iaload, 1) := by decide +kernel
theorem dL_isSo_311 : decode cL_isSo 311 = .ok (.invokestatic 233, 3) := by decide +kernel
theorem dL_isSo_314 : decode cL_isSo 314 = .ok (.ldc 18, 2) := by decide +kernel
theorem dL_isSo_316 : decode cL_isSo 316 = .ok (.if_icmp .ne 18, 3) := by decide +kernel
theorem dL_isSo_319 : decode cL_isSo 319 = .ok (.aload_n 0, 1) := by decide +kernel
theorem dL_isSo_320 : decode cL_isSo 320 = .ok (.iconst (-1), 1) := by decide +kernel
theorem dL_isSo_321 : decode cL_isSo 321 = .ok (.iconst 0, 1) := by decide +kernel
theorem dL_isSo_322 : decode cL_isSo 322 = .ok (.invokestatic 235, 3) := by decide +kernel
theorem dL_isSo_325 : decode cL_isSo 325 = .ok (.ldc 18, 2) := by decide +kernel
theorem dL_isSo_327 : decode cL_isSo 327 = .ok (.if_icmp .ne 7, 3) := by decide +kernel
theorem dL_isSo_330 : decode cL_isSo 330 = .ok (.iconst 1, 1) := by decide +kernel
theorem dL_isSo_331 : decode cL_isSo 331 = .ok (.goto 4, 3) := by decide +kernel
theorem dL_isSo_334 : decode cL_isSo 334 = .ok (.iconst 0, 1) := by decide +kernel
theorem dL_isSo_335 : decode cL_isSo 335 = .ok (.ireturn, 1) := by decide +kernel
theorem lk_L_isSo : LK yL_isSo cL_isSo 7 (some .boolean) 5 := ⟨qW_at 366 (by decide +kernel) rfl, qW_at 28 (by decide +kernel) rfl, by decide, by decide, by decide +kernel⟩
theorem st_L_isSo : Cond.static yL_isSo ∈ qW := qW_at 365 (by decide +kernel) rfl
noncomputable def F_L_isSo (sv : Nat) (x_ : Int32) : LX Int32 :=
  (lb (lb (lb (lb (lb (lb (lb (lp (some sv)) fun v1 => lgo v1 sv (lq fun S => I (mf S 3))) fun v2 => lb (lb (lp (some (sv + 22))) fun v3 => lb (lp (I 0)) fun v4 => lai sv v3 v4) fun v5 => lp (decide (v2 = v5))) fun v11 => if v11 then (lb (lb (lp (some sv)) fun v6 => lgo v6 sv (lq fun S => I (mf S 29))) fun v7 => lb (lb (lp (some (sv + 22))) fun v8 => lb (lp (I 1)) fun v9 => lai sv v8 v9) fun v10 => lp (decide (v7 = v10))) else lp false) fun v22 => if v22 then (lb (lb (lp (some sv)) fun v18 => lb (lb (lp x_) fun v12 => lb (lp (I 3)) fun v13 => F_L_low sv v12 v13) fun v19 => lb (lb (lb (lp x_) fun v14 => lb (lp (I 3)) fun v15 => (lp (v14 >>> (v15 &&& 31)))) fun v16 => lb (lp (I 1400)) fun v17 => F_L_low sv v16 v17) fun v20 => lgo v18 sv (F_L_isClock sv v19 v20)) fun v21 => lp (decide (¬ v21 = 0))) else lp false) fun v33 => if v33 then (lb (lb (lp (some sv)) fun v27 => lb (lp (some (sv + 21))) fun v28 => lb (lp (some (sv + 22))) fun v29 => lb (lb (lp x_) fun v23 => lb (lp (I 5)) fun v24 => F_L_low sv v23 v24) fun v30 => lb (lb (lp x_) fun v25 => lb (lp (I 5)) fun v26 => (lp (v25 >>> (v26 &&& 31)))) fun v31 => lgo v27 sv (lgo v28 (sv + 21) (lgo v29 (sv + 22) (F_L_areMarks sv v30 v31)))) fun v32 => lp (decide (¬ v32 = 0))) else lp false) fun v34 => lp (b2i v34)) fun is_35 =>
  (lb (lp (I 0)) fun meeting_36 =>
  (lb (ll 9 (fun (s37 : Int32 × Int32) => (lb (lb (lp s37.2) fun v38 => lb (lb (lp (some (sv + 22))) fun v39 => lb (lp (I 0)) fun v40 => lai sv v39 v40) fun v41 => lp (decide (v38 < v41))) fun v43 => if v43 then (lb (lp s37.1) fun v42 => lp (decide (¬ v42 = 0))) else lp false)) (fun (s37 : Int32 × Int32) =>
  (lb (lb (lb (lb (lb (lb (lp (some sv)) fun v48 => lb (lp (some (sv + 20))) fun v49 => lb (lb (lb (lp x_) fun v44 => lb (lp (I 7)) fun v45 => (lp (v44 >>> (v45 &&& 31)))) fun v46 => lb (lp (I 5)) fun v47 => F_L_low sv v46 v47) fun v50 => lb (lp s37.2) fun v51 => lgo v48 sv (lgo v49 (sv + 20) (F_L_isHeld sv v50 v51))) fun v52 => lp (decide (¬ v52 = 0))) fun v62 => if v62 then (lb (lb (lp (some sv)) fun v57 => lb (lp (some (sv + 20))) fun v58 => lb (lb (lb (lp (some (sv + 20))) fun v53 => lb (lp s37.2) fun v54 => lai sv v53 v54) fun v55 => lb (lp (I 8)) fun v56 => (lrem v55 v56)) fun v59 => lb (lp s37.2) fun v60 => lgo v57 sv (lgo v58 (sv + 20) (F_L_isHeld sv v59 v60))) fun v61 => lp (decide (¬ v61 = 0))) else lp false) fun v73 => if v73 then (lb (lb (lp (some sv)) fun v67 => lb (lp (some (sv + 20))) fun v68 => lb (lp (some (sv + 22))) fun v69 => lb (lp s37.2) fun v70 => lb (lb (lb (lp x_) fun v63 => lb (lp (I 9)) fun v64 => (lp (v63 >>> (v64 &&& 31)))) fun v65 => lb (lp (I 60)) fun v66 => F_L_low sv v65 v66) fun v71 => lgo v67 sv (lgo v68 (sv + 20) (lgo v69 (sv + 22) (F_L_areAsked sv v70 v71)))) fun v72 => lp (decide (¬ v72 = 0))) else lp false) fun v74 => lp (b2i v74)) fun is_75 =>
  (lp (is_75, (s37.2 + 1))))) (is_35, meeting_36)) fun s76 =>
  (lb (lb (lb (lb (lb (lb (lb (lb (lb (lb (lb (lb (lb (lb (lb (lp s76.1) fun v77 => lp (decide (¬ v77 = 0))) fun v99 => if v99 then (lb (lb (lp (some sv)) fun v94 => lb (lb (lp (I 1)) fun v82 => lb (lb (lb (lp x_) fun v78 => lb (lp (I 4)) fun v79 => (lp (v78 >>> (v79 &&& 31)))) fun v80 => lb (lp (I 31)) fun v81 => F_L_low sv v80 v81) fun v83 => (lp (v82 + v83))) fun v95 => lb (lb (lb (lb (lp x_) fun v84 => lb (lp (I 11)) fun v85 => (lp (v84 >>> (v85 &&& 31)))) fun v86 => lb (lp (I 1548)) fun v87 => F_L_low sv v86 v87) fun v88 => lb (lp (I 48)) fun v89 => (lp (v88 - v89))) fun v96 => lb (lb (lp (I 1)) fun v92 => lb (lb (lp x_) fun v90 => lb (lp (I 12)) fun v91 => F_L_low sv v90 v91) fun v93 => (lp (v92 + v93))) fun v97 => lgo v94 sv (F_L_isFree sv v95 v96 v97)) fun v98 => lp (decide (¬ v98 = 0))) else lp false) fun v107 => if v107 then (lb (lb (lp (some sv)) fun v102 => lb (lp (I 0)) fun v103 => lb (lb (lp (some (sv + 22))) fun v100 => lb (lp (I 0)) fun v101 => lai sv v100 v101) fun v104 => lgo v102 sv (w_isThere v103 v104)) fun v105 => lb (lp (I (-1000001))) fun v106 => lp (decide (v105 = v106))) else lp false) fun v113 => if v113 then (lb (lb (lp (some sv)) fun v108 => lb (lp (I 5)) fun v109 => lb (lp (I 0)) fun v110 => lgo v108 sv (w_sequence v109 v110)) fun v111 => lb (lp (I (-1000001))) fun v112 => lp (decide (v111 = v112))) else lp false) fun v121 => if v121 then (lb (lb (lp (some sv)) fun v116 => lb (lp (I 0)) fun v117 => lb (lb (lp (some (sv + 22))) fun v114 => lb (lp (I 0)) fun v115 => lai sv v114 v115) fun v118 => lgo v116 sv (w_dates v117 v118)) fun v119 => lb (lp (I (-1000001))) fun v120 => lp (decide (v119 = v120))) else lp false) fun v129 => if v129 then (lb (lb (lp (some sv)) fun v124 => lb (lb (lp (some (sv + 22))) fun v122 => lb (lp (I 0)) fun v123 => lai sv v122 v123) fun v125 => lb (lp (I 0)) fun v126 => lgo v124 sv (w_isAsked v125 v126)) fun v127 => lb (lp (I (-1000001))) fun v128 => lp (decide (v127 = v128))) else lp false) fun v136 => if v136 then (lb (lb (lp (some sv)) fun v132 => lb (lb (lp (some (sv + 22))) fun v130 => lb (lp (I 0)) fun v131 => lai sv v130 v131) fun v133 => lgo v132 sv (w_agrees v133)) fun v134 => lb (lp (I (-1000001))) fun v135 => lp (decide (v134 = v135))) else lp false) fun v141 => if v141 then (lb (lb (lp (some sv)) fun v137 => lb (lp (I (-1))) fun v138 => lgo v137 sv (w_proposals v138)) fun v139 => lb (lp (I (-1000001))) fun v140 => lp (decide (v139 = v140))) else lp false) fun v148 => if v148 then (lb (lb (lp (some sv)) fun v144 => lb (lb (lp (some (sv + 22))) fun v142 => lb (lp (I 1)) fun v143 => lai sv v142 v143) fun v145 => lgo v144 sv (w_deliver v145)) fun v146 => lb (lp (I (-1000001))) fun v147 => lp (decide (v146 = v147))) else lp false) fun v153 => if v153 then (lb (lb (lp (some sv)) fun v149 => lb (lp (I (-1))) fun v150 => lgo v149 sv (w_kindOf v150)) fun v151 => lb (lp (I (-1000001))) fun v152 => lp (decide (v151 = v152))) else lp false) fun v160 => if v160 then (lb (lb (lp (some sv)) fun v156 => lb (lb (lp (some (sv + 22))) fun v154 => lb (lp (I 1)) fun v155 => lai sv v154 v155) fun v157 => lgo v156 sv (w_receiver v157)) fun v158 => lb (lp (I (-1000001))) fun v159 => lp (decide (v158 = v159))) else lp false) fun v167 => if v167 then (lb (lb (lp (some sv)) fun v163 => lb (lb (lp (some (sv + 22))) fun v161 => lb (lp (I 1)) fun v162 => lai sv v161 v162) fun v164 => lgo v163 sv (w_lineLength v164)) fun v165 => lb (lp (I (-1000001))) fun v166 => lp (decide (v165 = v166))) else lp false) fun v173 => if v173 then (lb (lb (lp (some sv)) fun v168 => lb (lp (I (-1))) fun v169 => lb (lp (I 0)) fun v170 => lgo v168 sv (w_lineChar v169 v170)) fun v171 => lb (lp (I (-1000001))) fun v172 => lp (decide (v171 = v172))) else lp false) fun v174 => lp (b2i v174)) lz))))
set_option maxRecDepth 100000 in
set_option maxHeartbeats 4000000 in
theorem M_L_isSo (sv : Nat) (x_ : Int32) : LM yL_isSo cL_isSo 7 (some .boolean) 12 228 21609 130230 [.ref sv, .ref (sv + 20), .ref (sv + 21), .ref (sv + 22), .int x_] sv (F_L_isSo sv x_) := by
  refine LM_of (env0 := [(0, va_rf (some sv)), (1, va_rf (some (sv + 20))), (2, va_rf (some (sv + 21))), (3, va_rf (some (sv + 22))), (4, .int x_)]) (by decide) (by exact Nat.le_of_ble_eq_true rfl) rfl (fun k R X C hR hN hr L0 h0 => ?_)
  have X : CX k cL_isSo RL := X
  have htr := C.2.2.2.1
  unfold F_L_isSo at h0
  exact KSB_go (KSB_let (KXE_b2i (KCE_and (KCE_and (KCE_and (KCE_2 wI (KXE_1 (pB := pI) (kX (L_aload_n (r := (some sv)) 0 X dL_isSo_0 rfl rfl)) (fun r st L a b hd hc hs h => by obtain ⟨rfl, h1⟩ := lgo_of h; exact k_callQ (st := st) X htr (M_X6_meetings sv) (fun G S m hC => q_meetings hC) lk_X6_meetings im_X6_meetings se_X6_meetings ml_L_205 (by rw [hR]; exact ⟨Nat.le_of_ble_eq_true rfl, Nat.le_of_ble_eq_true rfl⟩) (Nat.le_trans hd (by decide)) ⟨hc, hs⟩ dL_isSo_1 h1)) (KXE_2 wR (kX (L_aload_n (r := (some (sv + 22))) 3 X dL_isSo_4 rfl rfl)) (kX (L_iconst (v := I 0) X dL_isSo_5 (by decide))) (kai X dL_isSo_6)) (kF2 (C_eq_F X dL_isSo_7 (by decide)))) (KCE_2 wI (KXE_1 (pB := pI) (kX (L_aload_n (r := (some sv)) 0 X dL_isSo_10 rfl rfl)) (fun r st L a b hd hc hs h => by obtain ⟨rfl, h1⟩ := lgo_of h; exact k_callQ (st := st) X htr (M_X6_messages sv) (fun G S m hC => q_messages hC) lk_X6_messages im_X6_messages se_X6_messages ml_L_209 (by rw [hR]; exact ⟨Nat.le_of_ble_eq_true rfl, Nat.le_of_ble_eq_true rfl⟩) (Nat.le_trans hd (by decide)) ⟨hc, hs⟩ dL_isSo_11 h1)) (KXE_2 wR (kX (L_aload_n (r := (some (sv + 22))) 3 X dL_isSo_14 rfl rfl)) (kX (L_iconst (v := I 1) X dL_isSo_15 (by decide))) (kai X dL_isSo_16)) (kF2 (C_eq_F X dL_isSo_17 (by decide))))) (KCE_1 (KXE_3 (pB := pI) wR wI (kX (L_aload_n (r := (some sv)) 0 X dL_isSo_20 rfl rfl)) (KXE_2 (pB := pI) wI (kX (L_iload (x := x_) 4 X dL_isSo_21 rfl)) (kX (L_iconst (v := I 3) X dL_isSo_23 (by decide))) (fun v0 v1 st L a b hd hc hs h => by exact k_callS (st := st) X htr (M_L_low sv v0 v1) lk_L_low st_L_low ml_L_198 rfl (by rw [hR]; exact ⟨Nat.le_of_ble_eq_true rfl, Nat.le_of_ble_eq_true rfl⟩) (Nat.le_trans hd (by decide)) ⟨hc, hs⟩ dL_isSo_24 h)) (KXE_2 (pB := pI) wI (KXE_2 wI (kX (L_iload (x := x_) 4 X dL_isSo_27 rfl)) (kX (L_iconst (v := I 3) X dL_isSo_29 (by decide))) (k2 (O_ishr X dL_isSo_30))) (kX (L_sipush (v := I 1400) X dL_isSo_31 (by decide))) (fun v0 v1 st L a b hd hc hs h => by exact k_callS (st := st) X htr (M_L_low sv v0 v1) lk_L_low st_L_low ml_L_198 rfl (by rw [hR]; exact ⟨Nat.le_of_ble_eq_true rfl, Nat.le_of_ble_eq_true rfl⟩) (Nat.le_trans hd (by decide)) ⟨hc, hs⟩ dL_isSo_34 h)) (fun v0 v1 v2 st L a b hd hc hs h => by obtain ⟨rfl, h1⟩ := lgo_of h; exact k_callS (st := st) X htr (M_L_isClock sv v1 v2) lk_L_isClock st_L_isClock ml_L_212 rfl (by rw [hR]; exact ⟨Nat.le_of_ble_eq_true rfl, Nat.le_of_ble_eq_true rfl⟩) (Nat.le_trans hd (by decide)) ⟨hc, hs⟩ dL_isSo_37 h1)) (kF1 (Z_ne_F X dL_isSo_40 (by decide))))) (KCE_1 (KXE_5 (pB := pI) wR wR wR wI (kX (L_aload_n (r := (some sv)) 0 X dL_isSo_43 rfl rfl)) (kX (L_aload_n (r := (some (sv + 21))) 2 X dL_isSo_44 rfl rfl)) (kX (L_aload_n (r := (some (sv + 22))) 3 X dL_isSo_45 rfl rfl)) (KXE_2 (pB := pI) wI (kX (L_iload (x := x_) 4 X dL_isSo_46 rfl)) (kX (L_iconst (v := I 5) X dL_isSo_48 (by decide))) (fun v0 v1 st L a b hd hc hs h => by exact k_callS (st := st) X htr (M_L_low sv v0 v1) lk_L_low st_L_low ml_L_198 rfl (by rw [hR]; exact ⟨Nat.le_of_ble_eq_true rfl, Nat.le_of_ble_eq_true rfl⟩) (Nat.le_trans hd (by decide)) ⟨hc, hs⟩ dL_isSo_49 h)) (KXE_2 wI (kX (L_iload (x := x_) 4 X dL_isSo_52 rfl)) (kX (L_iconst (v := I 5) X dL_isSo_54 (by decide))) (k2 (O_ishr X dL_isSo_55))) (fun v0 v1 v2 v3 v4 st L a b hd hc hs h => by obtain ⟨rfl, h1⟩ := lgo_of h; obtain ⟨rfl, h2⟩ := lgo_of h1; obtain ⟨rfl, h3⟩ := lgo_of h2; exact k_callS (st := st) X htr (M_L_areMarks sv v3 v4) lk_L_areMarks st_L_areMarks ml_L_216 rfl (by rw [hR]; exact ⟨Nat.le_of_ble_eq_true rfl, Nat.le_of_ble_eq_true rfl⟩) (Nat.le_trans hd (by decide)) ⟨hc, hs⟩ dL_isSo_56 h3)) (kF1 (Z_ne_F X dL_isSo_59 (by decide))))) (kB (S_b1 X dL_isSo_62 dL_isSo_63 (by decide))) (kB (S_b0 X dL_isSo_66))) (kS (S_istore (ev := fun is_35 => [(5, .int is_35), (0, va_rf (some sv)), (1, va_rf (some (sv + 20))), (2, va_rf (some (sv + 21))), (3, va_rf (some (sv + 22))), (4, .int x_)]) X dL_isSo_67 (by rw [hN]; decide) (fun _ => rfl))) fun is_35 =>
  (KSB_let (kX (L_iconst (v := I 0) X dL_isSo_69 (by decide))) (kS (S_istore (ev := fun meeting_36 => [(6, .int meeting_36), (5, .int is_35), (0, va_rf (some sv)), (1, va_rf (some (sv + 20))), (2, va_rf (some (sv + 21))), (3, va_rf (some (sv + 22))), (4, .int x_)]) X dL_isSo_70 (by rw [hN]; decide) (fun _ => rfl))) fun meeting_36 =>
  (KSB_seq (KST_loop (σ := Int32 × Int32) (upd := (fun (s : Int32 × Int32) => [(6, .int s.2), (5, .int s.1), (0, va_rf (some sv)), (1, va_rf (some (sv + 20))), (2, va_rf (some (sv + 21))), (3, va_rf (some (sv + 22))), (4, .int x_)])) (s0 := (is_35, meeting_36)) (n := 9) (fun L a b h => GL_sub [0, 1, 2, 3, 4, 5, 6] rfl h)
  (fun s37 => (KCE_and (KCE_2 wI (kX (L_iload (x := s37.2) 0 X dL_isSo_72 rfl)) (KXE_2 wR (kX (L_aload_n (r := (some (sv + 22))) 5 X dL_isSo_74 rfl rfl)) (kX (L_iconst (v := I 0) X dL_isSo_75 (by decide))) (kai X dL_isSo_76)) (kF2 (C_lt_F X dL_isSo_77 (by decide)))) (KCE_1 (kX (L_iload (x := s37.1) 1 X dL_isSo_80 rfl)) (kF1 (Z_ne_F X dL_isSo_82 (by decide))))))
  (fun s37 => (KST_post (KST_let (KXE_b2i (KCE_and (KCE_and (KCE_1 (KXE_4 (pB := pI) wR wR wI (kX (L_aload_n (r := (some sv)) 2 X dL_isSo_85 rfl rfl)) (kX (L_aload_n (r := (some (sv + 20))) 3 X dL_isSo_86 rfl rfl)) (KXE_2 (pB := pI) wI (KXE_2 wI (kX (L_iload (x := x_) 6 X dL_isSo_87 rfl)) (kX (L_bipush (v := I 7) X dL_isSo_89 (by decide))) (k2 (O_ishr X dL_isSo_91))) (kX (L_iconst (v := I 5) X dL_isSo_92 (by decide))) (fun v0 v1 st L a b hd hc hs h => by exact k_callS (st := st) X htr (M_L_low sv v0 v1) lk_L_low st_L_low ml_L_198 rfl (by rw [hR]; exact ⟨Nat.le_of_ble_eq_true rfl, Nat.le_of_ble_eq_true rfl⟩) (Nat.le_trans hd (by decide)) ⟨hc, hs⟩ dL_isSo_93 h)) (kX (L_iload (x := s37.2) 0 X dL_isSo_96 rfl)) (fun v0 v1 v2 v3 st L a b hd hc hs h => by obtain ⟨rfl, h1⟩ := lgo_of h; obtain ⟨rfl, h2⟩ := lgo_of h1; exact k_callS (st := st) X htr (M_L_isHeld sv v2 v3) lk_L_isHeld st_L_isHeld ml_L_220 rfl (by rw [hR]; exact ⟨Nat.le_of_ble_eq_true rfl, Nat.le_of_ble_eq_true rfl⟩) (Nat.le_trans hd (by decide)) ⟨hc, hs⟩ dL_isSo_98 h2)) (kF1 (Z_ne_F X dL_isSo_101 (by decide)))) (KCE_1 (KXE_4 (pB := pI) wR wR wI (kX (L_aload_n (r := (some sv)) 2 X dL_isSo_104 rfl rfl)) (kX (L_aload_n (r := (some (sv + 20))) 3 X dL_isSo_105 rfl rfl)) (KXE_2 wI (KXE_2 wR (kX (L_aload_n (r := (some (sv + 20))) 3 X dL_isSo_106 rfl rfl)) (kX (L_iload (x := s37.2) 0 X dL_isSo_107 rfl)) (kai X dL_isSo_109)) (kX (L_bipush (v := I 8) X dL_isSo_110 (by decide))) (krem X dL_isSo_112)) (kX (L_iload (x := s37.2) 0 X dL_isSo_113 rfl)) (fun v0 v1 v2 v3 st L a b hd hc hs h => by obtain ⟨rfl, h1⟩ := lgo_of h; obtain ⟨rfl, h2⟩ := lgo_of h1; exact k_callS (st := st) X htr (M_L_isHeld sv v2 v3) lk_L_isHeld st_L_isHeld ml_L_220 rfl (by rw [hR]; exact ⟨Nat.le_of_ble_eq_true rfl, Nat.le_of_ble_eq_true rfl⟩) (Nat.le_trans hd (by decide)) ⟨hc, hs⟩ dL_isSo_115 h2)) (kF1 (Z_ne_F X dL_isSo_118 (by decide))))) (KCE_1 (KXE_5 (pB := pI) wR wR wR wI (kX (L_aload_n (r := (some sv)) 2 X dL_isSo_121 rfl rfl)) (kX (L_aload_n (r := (some (sv + 20))) 3 X dL_isSo_122 rfl rfl)) (kX (L_aload_n (r := (some (sv + 22))) 5 X dL_isSo_123 rfl rfl)) (kX (L_iload (x := s37.2) 0 X dL_isSo_124 rfl)) (KXE_2 (pB := pI) wI (KXE_2 wI (kX (L_iload (x := x_) 6 X dL_isSo_126 rfl)) (kX (L_bipush (v := I 9) X dL_isSo_128 (by decide))) (k2 (O_ishr X dL_isSo_130))) (kX (L_bipush (v := I 60) X dL_isSo_131 (by decide))) (fun v0 v1 st L a b hd hc hs h => by exact k_callS (st := st) X htr (M_L_low sv v0 v1) lk_L_low st_L_low ml_L_198 rfl (by rw [hR]; exact ⟨Nat.le_of_ble_eq_true rfl, Nat.le_of_ble_eq_true rfl⟩) (Nat.le_trans hd (by decide)) ⟨hc, hs⟩ dL_isSo_133 h)) (fun v0 v1 v2 v3 v4 st L a b hd hc hs h => by obtain ⟨rfl, h1⟩ := lgo_of h; obtain ⟨rfl, h2⟩ := lgo_of h1; obtain ⟨rfl, h3⟩ := lgo_of h2; exact k_callS (st := st) X htr (M_L_areAsked sv v3 v4) lk_L_areAsked st_L_areAsked ml_L_224 rfl (by rw [hR]; exact ⟨Nat.le_of_ble_eq_true rfl, Nat.le_of_ble_eq_true rfl⟩) (Nat.le_trans hd (by decide)) ⟨hc, hs⟩ dL_isSo_136 h3)) (kF1 (Z_ne_F X dL_isSo_139 (by decide))))) (kB (S_b1 X dL_isSo_142 dL_isSo_143 (by decide))) (kB (S_b0 X dL_isSo_146))) (kS (S_istore (ev := fun is_75 => [(5, .int is_75), (6, .int s37.2), (0, va_rf (some sv)), (1, va_rf (some (sv + 20))), (2, va_rf (some (sv + 21))), (3, va_rf (some (sv + 22))), (4, .int x_)]) X dL_isSo_147 (by rw [hN]; decide) (fun _ => rfl))) fun is_75 =>
  (KST_pre (env' := [(6, .int (s37.2 + 1)), (5, .int is_75), (0, va_rf (some sv)), (1, va_rf (some (sv + 20))), (2, va_rf (some (sv + 21))), (3, va_rf (some (sv + 22))), (4, .int x_)]) (kP (S_iinc 1 X dL_isSo_149 rfl rfl (by rw [hN]; decide) rfl))
  (KST_done (upd := (fun (s : Int32 × Int32) => [(6, .int s.2), (5, .int s.1), (0, va_rf (some sv)), (1, va_rf (some (sv + 20))), (2, va_rf (some (sv + 21))), (3, va_rf (some (sv + 22))), (4, .int x_)])) (s := (is_75, (s37.2 + 1))) [0, 1, 2, 3, 4, 5, 6] rfl))) fun _ L a b h => kJ (S_goto X dL_isSo_152 (by decide)) [] L a b h))) fun s76 =>
  (kretZ X C hr dL_isSo_335 (KXE_b2i (KCE_and (KCE_and (KCE_and (KCE_and (KCE_and (KCE_and (KCE_and (KCE_and (KCE_and (KCE_and (KCE_and (KCE_and (KCE_1 (kX (L_iload (x := s76.1) 1 X dL_isSo_155 rfl)) (kF1 (Z_ne_F X dL_isSo_157 (by decide)))) (KCE_1 (KXE_4 (pB := pI) wR wI wI (kX (L_aload_n (r := (some sv)) 2 X dL_isSo_160 rfl rfl)) (KXE_2 wI (kX (L_iconst (v := I 1) X dL_isSo_161 (by decide))) (KXE_2 (pB := pI) wI (KXE_2 wI (kX (L_iload (x := x_) 6 X dL_isSo_162 rfl)) (kX (L_iconst (v := I 4) X dL_isSo_164 (by decide))) (k2 (O_ishr X dL_isSo_165))) (kX (L_bipush (v := I 31) X dL_isSo_166 (by decide))) (fun v0 v1 st L a b hd hc hs h => by exact k_callS (st := st) X htr (M_L_low sv v0 v1) lk_L_low st_L_low ml_L_198 rfl (by rw [hR]; exact ⟨Nat.le_of_ble_eq_true rfl, Nat.le_of_ble_eq_true rfl⟩) (Nat.le_trans hd (by decide)) ⟨hc, hs⟩ dL_isSo_168 h)) (k2 (O_iadd X dL_isSo_171))) (KXE_2 wI (KXE_2 (pB := pI) wI (KXE_2 wI (kX (L_iload (x := x_) 6 X dL_isSo_172 rfl)) (kX (L_bipush (v := I 11) X dL_isSo_174 (by decide))) (k2 (O_ishr X dL_isSo_176))) (kX (L_sipush (v := I 1548) X dL_isSo_177 (by decide))) (fun v0 v1 st L a b hd hc hs h => by exact k_callS (st := st) X htr (M_L_low sv v0 v1) lk_L_low st_L_low ml_L_198 rfl (by rw [hR]; exact ⟨Nat.le_of_ble_eq_true rfl, Nat.le_of_ble_eq_true rfl⟩) (Nat.le_trans hd (by decide)) ⟨hc, hs⟩ dL_isSo_180 h)) (kX (L_bipush (v := I 48) X dL_isSo_183 (by decide))) (k2 (O_isub X dL_isSo_185))) (KXE_2 wI (kX (L_iconst (v := I 1) X dL_isSo_186 (by decide))) (KXE_2 (pB := pI) wI (kX (L_iload (x := x_) 6 X dL_isSo_187 rfl)) (kX (L_bipush (v := I 12) X dL_isSo_189 (by decide))) (fun v0 v1 st L a b hd hc hs h => by exact k_callS (st := st) X htr (M_L_low sv v0 v1) lk_L_low st_L_low ml_L_198 rfl (by rw [hR]; exact ⟨Nat.le_of_ble_eq_true rfl, Nat.le_of_ble_eq_true rfl⟩) (Nat.le_trans hd (by decide)) ⟨hc, hs⟩ dL_isSo_191 h)) (k2 (O_iadd X dL_isSo_194))) (fun v0 v1 v2 v3 st L a b hd hc hs h => by obtain ⟨rfl, h1⟩ := lgo_of h; exact k_callS (st := st) X htr (M_L_isFree sv v1 v2 v3) lk_L_isFree st_L_isFree ml_L_227 rfl (by rw [hR]; exact ⟨Nat.le_of_ble_eq_true rfl, Nat.le_of_ble_eq_true rfl⟩) (Nat.le_trans hd (by decide)) ⟨hc, hs⟩ dL_isSo_195 h1)) (kF1 (Z_ne_F X dL_isSo_198 (by decide))))) (KCE_2 wI (KXE_3 (pB := pI) wR wI (kX (L_aload_n (r := (some sv)) 2 X dL_isSo_201 rfl rfl)) (kX (L_iconst (v := I 0) X dL_isSo_202 (by decide))) (KXE_2 wR (kX (L_aload_n (r := (some (sv + 22))) 5 X dL_isSo_203 rfl rfl)) (kX (L_iconst (v := I 0) X dL_isSo_204 (by decide))) (kai X dL_isSo_205)) (fun v0 v1 v2 st L a b hd hc hs h => by obtain ⟨rfl, h1⟩ := lgo_of h; exact k_callH (st := st) X htr (E_L_isThere sv v1 v2) lkh_isThere stl_isThere ml_L_162 rfl (by rw [hR]; exact ⟨Nat.le_of_ble_eq_true rfl, Nat.le_of_ble_eq_true rfl⟩) (Nat.le_trans hd (by decide)) ⟨hc, hs⟩ dL_isSo_206 h1)) (kX (L_ldc (v := I (-1000001)) X dL_isSo_209 kd_L_18)) (kF2 (C_eq_F X dL_isSo_211 (by decide))))) (KCE_2 wI (KXE_3 (pB := pI) wR wI (kX (L_aload_n (r := (some sv)) 2 X dL_isSo_214 rfl rfl)) (kX (L_iconst (v := I 5) X dL_isSo_215 (by decide))) (kX (L_iconst (v := I 0) X dL_isSo_216 (by decide))) (fun v0 v1 v2 st L a b hd hc hs h => by obtain ⟨rfl, h1⟩ := lgo_of h; exact k_callH (st := st) X htr (E_L_sequence sv v1 v2) lkh_sequence stl_sequence ml_L_160 rfl (by rw [hR]; exact ⟨Nat.le_of_ble_eq_true rfl, Nat.le_of_ble_eq_true rfl⟩) (Nat.le_trans hd (by decide)) ⟨hc, hs⟩ dL_isSo_217 h1)) (kX (L_ldc (v := I (-1000001)) X dL_isSo_220 kd_L_18)) (kF2 (C_eq_F X dL_isSo_222 (by decide))))) (KCE_2 wI (KXE_3 (pB := pI) wR wI (kX (L_aload_n (r := (some sv)) 2 X dL_isSo_225 rfl rfl)) (kX (L_iconst (v := I 0) X dL_isSo_226 (by decide))) (KXE_2 wR (kX (L_aload_n (r := (some (sv + 22))) 5 X dL_isSo_227 rfl rfl)) (kX (L_iconst (v := I 0) X dL_isSo_228 (by decide))) (kai X dL_isSo_229)) (fun v0 v1 v2 st L a b hd hc hs h => by obtain ⟨rfl, h1⟩ := lgo_of h; exact k_callH (st := st) X htr (E_L_dates sv v1 v2) lkh_dates stl_dates ml_L_164 rfl (by rw [hR]; exact ⟨Nat.le_of_ble_eq_true rfl, Nat.le_of_ble_eq_true rfl⟩) (Nat.le_trans hd (by decide)) ⟨hc, hs⟩ dL_isSo_230 h1)) (kX (L_ldc (v := I (-1000001)) X dL_isSo_233 kd_L_18)) (kF2 (C_eq_F X dL_isSo_235 (by decide))))) (KCE_2 wI (KXE_3 (pB := pI) wR wI (kX (L_aload_n (r := (some sv)) 2 X dL_isSo_238 rfl rfl)) (KXE_2 wR (kX (L_aload_n (r := (some (sv + 22))) 5 X dL_isSo_239 rfl rfl)) (kX (L_iconst (v := I 0) X dL_isSo_240 (by decide))) (kai X dL_isSo_241)) (kX (L_iconst (v := I 0) X dL_isSo_242 (by decide))) (fun v0 v1 v2 st L a b hd hc hs h => by obtain ⟨rfl, h1⟩ := lgo_of h; exact k_callH (st := st) X htr (E_L_isAsked sv v1 v2) lkh_isAsked stl_isAsked ml_L_175 rfl (by rw [hR]; exact ⟨Nat.le_of_ble_eq_true rfl, Nat.le_of_ble_eq_true rfl⟩) (Nat.le_trans hd (by decide)) ⟨hc, hs⟩ dL_isSo_243 h1)) (kX (L_ldc (v := I (-1000001)) X dL_isSo_246 kd_L_18)) (kF2 (C_eq_F X dL_isSo_248 (by decide))))) (KCE_2 wI (KXE_2 (pB := pI) wR (kX (L_aload_n (r := (some sv)) 2 X dL_isSo_251 rfl rfl)) (KXE_2 wR (kX (L_aload_n (r := (some (sv + 22))) 5 X dL_isSo_252 rfl rfl)) (kX (L_iconst (v := I 0) X dL_isSo_253 (by decide))) (kai X dL_isSo_254)) (fun v0 v1 st L a b hd hc hs h => by obtain ⟨rfl, h1⟩ := lgo_of h; exact k_callH (st := st) X htr (E_L_agrees sv v1) lkh_agrees stl_agrees ml_L_190 rfl (by rw [hR]; exact ⟨Nat.le_of_ble_eq_true rfl, Nat.le_of_ble_eq_true rfl⟩) (Nat.le_trans hd (by decide)) ⟨hc, hs⟩ dL_isSo_255 h1)) (kX (L_ldc (v := I (-1000001)) X dL_isSo_258 kd_L_18)) (kF2 (C_eq_F X dL_isSo_260 (by decide))))) (KCE_2 wI (KXE_2 (pB := pI) wR (kX (L_aload_n (r := (some sv)) 2 X dL_isSo_263 rfl rfl)) (kX (L_iconst (v := I (-1)) X dL_isSo_264 (by decide))) (fun v0 v1 st L a b hd hc hs h => by obtain ⟨rfl, h1⟩ := lgo_of h; exact k_callH (st := st) X htr (E_L_proposals sv v1) lkh_proposals stl_proposals ml_L_181 rfl (by rw [hR]; exact ⟨Nat.le_of_ble_eq_true rfl, Nat.le_of_ble_eq_true rfl⟩) (Nat.le_trans hd (by decide)) ⟨hc, hs⟩ dL_isSo_265 h1)) (kX (L_ldc (v := I (-1000001)) X dL_isSo_268 kd_L_18)) (kF2 (C_eq_F X dL_isSo_270 (by decide))))) (KCE_2 wI (KXE_2 (pB := pI) wR (kX (L_aload_n (r := (some sv)) 2 X dL_isSo_273 rfl rfl)) (KXE_2 wR (kX (L_aload_n (r := (some (sv + 22))) 5 X dL_isSo_274 rfl rfl)) (kX (L_iconst (v := I 1) X dL_isSo_275 (by decide))) (kai X dL_isSo_276)) (fun v0 v1 st L a b hd hc hs h => by obtain ⟨rfl, h1⟩ := lgo_of h; exact k_callH (st := st) X htr (E_L_deliver sv v1) lkh_deliver stl_deliver ml_L_231 rfl (by rw [hR]; exact ⟨Nat.le_of_ble_eq_true rfl, Nat.le_of_ble_eq_true rfl⟩) (Nat.le_trans hd (by decide)) ⟨hc, hs⟩ dL_isSo_277 h1)) (kX (L_ldc (v := I (-1000001)) X dL_isSo_280 kd_L_18)) (kF2 (C_eq_F X dL_isSo_282 (by decide))))) (KCE_2 wI (KXE_2 (pB := pI) wR (kX (L_aload_n (r := (some sv)) 2 X dL_isSo_285 rfl rfl)) (kX (L_iconst (v := I (-1)) X dL_isSo_286 (by decide))) (fun v0 v1 st L a b hd hc hs h => by obtain ⟨rfl, h1⟩ := lgo_of h; exact k_callH (st := st) X htr (E_L_kindOf sv v1) lkh_kindOf stl_kindOf ml_L_186 rfl (by rw [hR]; exact ⟨Nat.le_of_ble_eq_true rfl, Nat.le_of_ble_eq_true rfl⟩) (Nat.le_trans hd (by decide)) ⟨hc, hs⟩ dL_isSo_287 h1)) (kX (L_ldc (v := I (-1000001)) X dL_isSo_290 kd_L_18)) (kF2 (C_eq_F X dL_isSo_292 (by decide))))) (KCE_2 wI (KXE_2 (pB := pI) wR (kX (L_aload_n (r := (some sv)) 2 X dL_isSo_295 rfl rfl)) (KXE_2 wR (kX (L_aload_n (r := (some (sv + 22))) 5 X dL_isSo_296 rfl rfl)) (kX (L_iconst (v := I 1) X dL_isSo_297 (by decide))) (kai X dL_isSo_298)) (fun v0 v1 st L a b hd hc hs h => by obtain ⟨rfl, h1⟩ := lgo_of h; exact k_callH (st := st) X htr (E_L_receiver sv v1) lkh_receiver stl_receiver ml_L_188 rfl (by rw [hR]; exact ⟨Nat.le_of_ble_eq_true rfl, Nat.le_of_ble_eq_true rfl⟩) (Nat.le_trans hd (by decide)) ⟨hc, hs⟩ dL_isSo_299 h1)) (kX (L_ldc (v := I (-1000001)) X dL_isSo_302 kd_L_18)) (kF2 (C_eq_F X dL_isSo_304 (by decide))))) (KCE_2 wI (KXE_2 (pB := pI) wR (kX (L_aload_n (r := (some sv)) 2 X dL_isSo_307 rfl rfl)) (KXE_2 wR (kX (L_aload_n (r := (some (sv + 22))) 5 X dL_isSo_308 rfl rfl)) (kX (L_iconst (v := I 1) X dL_isSo_309 (by decide))) (kai X dL_isSo_310)) (fun v0 v1 st L a b hd hc hs h => by obtain ⟨rfl, h1⟩ := lgo_of h; exact k_callH (st := st) X htr (E_L_lineLength sv v1) lkh_lineLength stl_lineLength ml_L_233 rfl (by rw [hR]; exact ⟨Nat.le_of_ble_eq_true rfl, Nat.le_of_ble_eq_true rfl⟩) (Nat.le_trans hd (by decide)) ⟨hc, hs⟩ dL_isSo_311 h1)) (kX (L_ldc (v := I (-1000001)) X dL_isSo_314 kd_L_18)) (kF2 (C_eq_F X dL_isSo_316 (by decide))))) (KCE_2 wI (KXE_3 (pB := pI) wR wI (kX (L_aload_n (r := (some sv)) 2 X dL_isSo_319 rfl rfl)) (kX (L_iconst (v := I (-1)) X dL_isSo_320 (by decide))) (kX (L_iconst (v := I 0) X dL_isSo_321 (by decide))) (fun v0 v1 v2 st L a b hd hc hs h => by obtain ⟨rfl, h1⟩ := lgo_of h; exact k_callH (st := st) X htr (E_L_lineChar sv v1 v2) lkh_lineChar stl_lineChar ml_L_235 rfl (by rw [hR]; exact ⟨Nat.le_of_ble_eq_true rfl, Nat.le_of_ble_eq_true rfl⟩) (Nat.le_trans hd (by decide)) ⟨hc, hs⟩ dL_isSo_322 h1)) (kX (L_ldc (v := I (-1000001)) X dL_isSo_325 kd_L_18)) (kF2 (C_eq_F X dL_isSo_327 (by decide))))) (kB (S_b1 X dL_isSo_330 dL_isSo_331 (by decide))) (kB (S_b0 X dL_isSo_334))))))) h0 (by rw [hR]; exact Nat.le_of_ble_eq_true rfl) (by rw [hR]; exact Nat.le_of_ble_eq_true rfl)
theorem dL_changed_0 : decode cL_changed 0 = .ok (.aload_n 1, 1) := by decide +kernel
theorem dL_changed_1 : decode cL_changed 1 = .ok (.iload_n 3, 1) := by decide +kernel
theorem dL_changed_2 : decode cL_changed 2 = .ok (.iaload, 1) := by decide +kernel
theorem dL_changed_3 : decode cL_changed 3 = .ok (.bipush 8, 2) := by decide +kernel
theorem dL_changed_5 : decode cL_changed 5 = .ok (.idiv, 1) := by decide +kernel
theorem dL_changed_6 : decode cL_changed 6 = .ok (.sipush 512, 3) := by decide +kernel
theorem dL_changed_9 : decode cL_changed 9 = .ok (.irem, 1) := by decide +kernel
theorem dL_changed_10 : decode cL_changed 10 = .ok (.istore 5, 2) := by decide +kernel
theorem dL_changed_12 : decode cL_changed 12 = .ok (.iload 4, 2) := by decide +kernel
theorem dL_changed_14 : decode cL_changed 14 = .ok (.ifCond .lt 7, 3) := by decide +kernel
theorem dL_changed_17 : decode cL_changed 17 = .ok (.iconst 1, 1) := by decide +kernel
theorem dL_changed_18 : decode cL_changed 18 = .ok (.goto 4, 3) := by decide +kernel
theorem dL_changed_21 : decode cL_changed 21 = .ok (.iconst 0, 1) := by decide +kernel
theorem dL_changed_22 : decode cL_changed 22 = .ok (.istore 6, 2) := by decide +kernel
theorem dL_changed_24 : decode cL_changed 24 = .ok (.aload_n 1, 1) := by decide +kernel
theorem dL_changed_25 : decode cL_changed 25 = .ok (.iload_n 3, 1) := by decide +kernel
theorem dL_changed_26 : decode cL_changed 26 = .ok (.dup2, 1) := by decide +kernel
theorem dL_changed_27 : decode cL_changed 27 = .ok (.iaload, 1) := by decide +kernel
theorem dL_changed_28 : decode cL_changed 28 = .ok (.iload 6, 2) := by decide +kernel
theorem dL_changed_30 : decode cL_changed 30 = .ok (.ifCond .eq 8, 3) := by decide +kernel
theorem dL_changed_33 : decode cL_changed 33 = .ok (.bipush 8, 2) := by decide +kernel
theorem dL_changed_35 : decode cL_changed 35 = .ok (.goto 4, 3) := by decide +kernel
theorem dL_changed_38 : decode cL_changed 38 = .ok (.iconst 0, 1) := by decide +kernel
theorem dL_changed_39 : decode cL_changed 39 = .ok (.iadd, 1) := by decide +kernel
theorem dL_changed_40 : decode cL_changed 40 = .ok (.iastore, 1) := by decide +kernel
theorem dL_changed_41 : decode cL_changed 41 = .ok (.aload_n 2, 1) := by decide +kernel
theorem dL_changed_42 : decode cL_changed 42 = .ok (.aload_n 1, 1) := by decide +kernel
theorem dL_changed_43 : decode cL_changed 43 = .ok (.iload_n 3, 1) := by decide +kernel
theorem dL_changed_44 : decode cL_changed 44 = .ok (.iaload, 1) := by decide +kernel
theorem dL_changed_45 : decode cL_changed 45 = .ok (.bipush 8, 2) := by decide +kernel
theorem dL_changed_47 : decode cL_changed 47 = .ok (.irem, 1) := by decide +kernel
theorem dL_changed_48 : decode cL_changed 48 = .ok (.dup2, 1) := by decide +kernel
theorem dL_changed_49 : decode cL_changed 49 = .ok (.iaload, 1) := by decide +kernel
theorem dL_changed_50 : decode cL_changed 50 = .ok (.iload 6, 2) := by decide +kernel
theorem dL_changed_52 : decode cL_changed 52 = .ok (.ifCond .eq 7, 3) := by decide +kernel
theorem dL_changed_55 : decode cL_changed 55 = .ok (.iconst 1, 1) := by decide +kernel
theorem dL_changed_56 : decode cL_changed 56 = .ok (.goto 4, 3) := by decide +kernel
theorem dL_changed_59 : decode cL_changed 59 = .ok (.iconst 0, 1) := by decide +kernel
theorem dL_changed_60 : decode cL_changed 60 = .ok (.iadd, 1) := by decide +kernel
theorem dL_changed_61 : decode cL_changed 61 = .ok (.iastore, 1) := by decide +kernel
theorem dL_changed_62 : decode cL_changed 62 = .ok (.iload 6, 2) := by decide +kernel
theorem dL_changed_64 : decode cL_changed 64 = .ok (.ifCond .eq 24, 3) := by decide +kernel
theorem dL_changed_67 : decode cL_changed 67 = .ok (.iload 4, 2) := by decide +kernel
theorem dL_changed_69 : decode cL_changed 69 = .ok (.iload 5, 2) := by decide +kernel
theorem dL_changed_71 : decode cL_changed 71 = .ok (.iconst 1, 1) := by decide +kernel
theorem dL_changed_72 : decode cL_changed 72 = .ok (.iadd, 1) := by decide +kernel
theorem dL_changed_73 : decode cL_changed 73 = .ok (.if_icmp .ne 71, 3) := by decide +kernel
theorem dL_changed_76 : decode cL_changed 76 = .ok (.aload_n 1, 1) := by decide +kernel
theorem dL_changed_77 : decode cL_changed 77 = .ok (.iload_n 3, 1) := by decide +kernel
theorem dL_changed_78 : decode cL_changed 78 = .ok (.iaload, 1) := by decide +kernel
theorem dL_changed_79 : decode cL_changed 79 = .ok (.sipush 4096, 3) := by decide +kernel
theorem dL_changed_82 : decode cL_changed 82 = .ok (.if_icmp .ge 62, 3) := by decide +kernel
theorem dL_changed_85 : decode cL_changed 85 = .ok (.goto 10, 3) := by decide +kernel
theorem dL_changed_88 : decode cL_changed 88 = .ok (.iload 4, 2) := by decide +kernel
theorem dL_changed_90 : decode cL_changed 90 = .ok (.ldc 38, 2) := by decide +kernel
theorem dL_changed_92 : decode cL_changed 92 = .ok (.if_icmp .ne 52, 3) := by decide +kernel
theorem dL_changed_95 : decode cL_changed 95 = .ok (.aload_n 0, 1) := by decide +kernel
theorem dL_changed_96 : decode cL_changed 96 = .ok (.aload_n 1, 1) := by decide +kernel
theorem dL_changed_97 : decode cL_changed 97 = .ok (.iload_n 3, 1) := by decide +kernel
theorem dL_changed_98 : decode cL_changed 98 = .ok (.iaload, 1) := by decide +kernel
theorem dL_changed_99 : decode cL_changed 99 = .ok (.bipush 8, 2) := by decide +kernel
theorem dL_changed_101 : decode cL_changed 101 = .ok (.irem, 1) := by decide +kernel
theorem dL_changed_102 : decode cL_changed 102 = .ok (.iload_n 3, 1) := by decide +kernel
theorem dL_changed_103 : decode cL_changed 103 = .ok (.invokestatic 160, 3) := by decide +kernel
theorem dL_changed_106 : decode cL_changed 106 = .ok (.aload_n 1, 1) := by decide +kernel
theorem dL_changed_107 : decode cL_changed 107 = .ok (.iload_n 3, 1) := by decide +kernel
theorem dL_changed_108 : decode cL_changed 108 = .ok (.iaload, 1) := by decide +kernel
theorem dL_changed_109 : decode cL_changed 109 = .ok (.bipush 8, 2) := by decide +kernel
theorem dL_changed_111 : decode cL_changed 111 = .ok (.idiv, 1) := by decide +kernel
theorem dL_changed_112 : decode cL_changed 112 = .ok (.sipush 512, 3) := by decide +kernel
theorem dL_changed_115 : decode cL_changed 115 = .ok (.irem, 1) := by decide +kernel
theorem dL_changed_116 : decode cL_changed 116 = .ok (.if_icmp .ne 28, 3) := by decide +kernel
theorem dL_changed_119 : decode cL_changed 119 = .ok (.aload_n 0, 1) := by decide +kernel
theorem dL_changed_120 : decode cL_changed 120 = .ok (.aload_n 1, 1) := by decide +kernel
theorem dL_changed_121 : decode cL_changed 121 = .ok (.iload_n 3, 1) := by decide +kernel
theorem dL_changed_122 : decode cL_changed 122 = .ok (.iaload, 1) := by decide +kernel
theorem dL_changed_123 : decode cL_changed 123 = .ok (.bipush 8, 2) := by decide +kernel
theorem dL_changed_125 : decode cL_changed 125 = .ok (.irem, 1) := by decide +kernel
theorem dL_changed_126 : decode cL_changed 126 = .ok (.invokestatic 196, 3) := by decide +kernel
theorem dL_changed_129 : decode cL_changed 129 = .ok (.aload_n 2, 1) := by decide +kernel
theorem dL_changed_130 : decode cL_changed 130 = .ok (.aload_n 1, 1) := by decide +kernel
theorem dL_changed_131 : decode cL_changed 131 = .ok (.iload_n 3, 1) := by decide +kernel
theorem dL_changed_132 : decode cL_changed 132 = .ok (.iaload, 1) := by decide +kernel
theorem dL_changed_133 : decode cL_changed 133 = .ok (.bipush 8, 2) := by decide +kernel
theorem dL_changed_135 : decode cL_changed 135 = .ok (.irem, 1) := by decide +kernel
theorem dL_changed_136 : decode cL_changed 136 = .ok (.iaload, 1) := by decide +kernel
theorem dL_changed_137 : decode cL_changed 137 = .ok (.if_icmp .ne 7, 3) := by decide +kernel
theorem dL_changed_140 : decode cL_changed 140 = .ok (.iconst 1, 1) := by decide +kernel
theorem dL_changed_141 : decode cL_changed 141 = .ok (.goto 4, 3) := by decide +kernel
theorem dL_changed_144 : decode cL_changed 144 = .ok (.iconst 0, 1) := by decide +kernel
theorem dL_changed_145 : decode cL_changed 145 = .ok (.ireturn, 1) := by decide +kernel
theorem lk_L_changed : LK yL_changed cL_changed 7 (some .boolean) 5 := ⟨qW_at 1077 (by decide +kernel) rfl, qW_at 28 (by decide +kernel) rfl, by decide, by decide, by decide +kernel⟩
theorem st_L_changed : Cond.static yL_changed ∈ qW := qW_at 1076 (by decide +kernel) rfl
def F_L_changed (sv : Nat) (meeting_ told_ : Int32) : LX Int32 :=
  (lb (lb (lb (lb (lp (some (sv + 20))) fun v1 => lb (lp meeting_) fun v2 => lai sv v1 v2) fun v3 => lb (lp (I 8)) fun v4 => (ldiv v3 v4)) fun v5 => lb (lp (I 512)) fun v6 => (lrem v5 v6)) fun now_7 =>
  (lb (lb (lb (lp told_) fun v8 => lp (decide (0 ≤ v8))) fun v9 => lp (b2i v9)) fun done_10 =>
  (lb (lb (lp (some (sv + 20))) fun v13 => lb (lp meeting_) fun v14 => lb (lai sv v13 v14) fun v15 => lb (lb (lb (lp done_10) fun v11 => lp (decide (¬ v11 = 0))) fun v12 => if v12 then (lp (I 8)) else (lp (I 0))) fun v16 => lb (lp (v15 + v16)) fun v17 => lsai sv v13 v14 v17) fun _ =>
  (lb (lb (lp (some (sv + 21))) fun v24 => lb (lb (lb (lp (some (sv + 20))) fun v18 => lb (lp meeting_) fun v19 => lai sv v18 v19) fun v20 => lb (lp (I 8)) fun v21 => (lrem v20 v21)) fun v25 => lb (lai sv v24 v25) fun v26 => lb (lb (lb (lp done_10) fun v22 => lp (decide (¬ v22 = 0))) fun v23 => if v23 then (lp (I 1)) else (lp (I 0))) fun v27 => lb (lp (v26 + v27)) fun v28 => lsai sv v24 v25 v28) fun _ =>
  (lb (lb (lb (lb (lb (lb (lp done_10) fun v29 => lp (decide (¬ v29 = 0))) fun v39 => if v39 then (lb (lb (lp told_) fun v30 => lb (lb (lp now_7) fun v31 => lb (lp (I 1)) fun v32 => (lp (v31 + v32))) fun v33 => lp (decide (v30 = v33))) fun v38 => if v38 then (lb (lb (lp (some (sv + 20))) fun v34 => lb (lp meeting_) fun v35 => lai sv v34 v35) fun v36 => lb (lp (I 4096)) fun v37 => lp (decide (v36 < v37))) else lp false) else (lb (lp told_) fun v40 => lb (lp (I (-1000003))) fun v41 => lp (decide (v40 = v41)))) fun v57 => if v57 then (lb (lb (lp (some sv)) fun v46 => lb (lb (lb (lp (some (sv + 20))) fun v42 => lb (lp meeting_) fun v43 => lai sv v42 v43) fun v44 => lb (lp (I 8)) fun v45 => (lrem v44 v45)) fun v47 => lb (lp meeting_) fun v48 => lgo v46 sv (w_sequence v47 v48)) fun v49 => lb (lb (lb (lb (lp (some (sv + 20))) fun v50 => lb (lp meeting_) fun v51 => lai sv v50 v51) fun v52 => lb (lp (I 8)) fun v53 => (ldiv v52 v53)) fun v54 => lb (lp (I 512)) fun v55 => (lrem v54 v55)) fun v56 => lp (decide (v49 = v56))) else lp false) fun v72 => if v72 then (lb (lb (lp (some sv)) fun v62 => lb (lb (lb (lp (some (sv + 20))) fun v58 => lb (lp meeting_) fun v59 => lai sv v58 v59) fun v60 => lb (lp (I 8)) fun v61 => (lrem v60 v61)) fun v63 => lgo v62 sv (w_mark v63)) fun v64 => lb (lb (lp (some (sv + 21))) fun v69 => lb (lb (lb (lp (some (sv + 20))) fun v65 => lb (lp meeting_) fun v66 => lai sv v65 v66) fun v67 => lb (lp (I 8)) fun v68 => (lrem v67 v68)) fun v70 => lai sv v69 v70) fun v71 => lp (decide (v64 = v71))) else lp false) fun v73 => lp (b2i v73)) lz)))))
set_option maxRecDepth 100000 in
set_option maxHeartbeats 4000000 in
theorem M_L_changed (sv : Nat) (meeting_ told_ : Int32) : LM yL_changed cL_changed 7 (some .boolean) 9 148 3 18 [.ref sv, .ref (sv + 20), .ref (sv + 21), .int meeting_, .int told_] sv (F_L_changed sv meeting_ told_) := by
  refine LM_of (env0 := [(0, va_rf (some sv)), (1, va_rf (some (sv + 20))), (2, va_rf (some (sv + 21))), (3, .int meeting_), (4, .int told_)]) (by decide) (by exact Nat.le_of_ble_eq_true rfl) rfl (fun k R X C hR hN hr L0 h0 => ?_)
  have X : CX k cL_changed RL := X
  have htr := C.2.2.2.1
  unfold F_L_changed at h0
  exact KSB_go (KSB_let (KXE_2 wI (KXE_2 wI (KXE_2 wR (kX (L_aload_n (r := (some (sv + 20))) 1 X dL_changed_0 rfl rfl)) (kX (L_iload_n (x := meeting_) 3 X dL_changed_1 rfl rfl)) (kai X dL_changed_2)) (kX (L_bipush (v := I 8) X dL_changed_3 (by decide))) (kdiv X dL_changed_5)) (kX (L_sipush (v := I 512) X dL_changed_6 (by decide))) (krem X dL_changed_9)) (kS (S_istore (ev := fun now_7 => [(5, .int now_7), (0, va_rf (some sv)), (1, va_rf (some (sv + 20))), (2, va_rf (some (sv + 21))), (3, .int meeting_), (4, .int told_)]) X dL_changed_10 (by rw [hN]; decide) (fun _ => rfl))) fun now_7 =>
  (KSB_let (KXE_b2i (KCE_1 (kX (L_iload (x := told_) 5 X dL_changed_12 rfl)) (kF1 (Z_ge_F X dL_changed_14 (by decide)))) (kB (S_b1 X dL_changed_17 dL_changed_18 (by decide))) (kB (S_b0 X dL_changed_21))) (kS (S_istore (ev := fun done_10 => [(6, .int done_10), (5, .int now_7), (0, va_rf (some sv)), (1, va_rf (some (sv + 20))), (2, va_rf (some (sv + 21))), (3, .int meeting_), (4, .int told_)]) X dL_changed_22 (by rw [hN]; decide) (fun _ => rfl))) fun done_10 =>
  (KSB_do (KXE_dup2 wI (kX (L_aload_n (r := (some (sv + 20))) 3 X dL_changed_24 rfl rfl)) (kX (L_iload_n (x := meeting_) 5 X dL_changed_25 rfl rfl)) (kD2 (S_dup2 X dL_changed_26)) (kai X dL_changed_27) (KXE_tern (KCE_1 (kX (L_iload (x := done_10) 0 X dL_changed_28 rfl)) (kF1 (Z_ne_F X dL_changed_30 (by decide)))) (kX (L_bipush (v := I 8) X dL_changed_33 (by decide))) (kJ (S_goto X dL_changed_35 (by decide))) (kX (L_iconst (v := I 0) X dL_changed_38 (by decide)))) (k2 (O_iadd X dL_changed_39)) (ksai X dL_changed_40))
  (KSB_do (KXE_dup2 wI (kX (L_aload_n (r := (some (sv + 21))) 4 X dL_changed_41 rfl rfl)) (KXE_2 wI (KXE_2 wR (kX (L_aload_n (r := (some (sv + 20))) 3 X dL_changed_42 rfl rfl)) (kX (L_iload_n (x := meeting_) 5 X dL_changed_43 rfl rfl)) (kai X dL_changed_44)) (kX (L_bipush (v := I 8) X dL_changed_45 (by decide))) (krem X dL_changed_47)) (kD2 (S_dup2 X dL_changed_48)) (kai X dL_changed_49) (KXE_tern (KCE_1 (kX (L_iload (x := done_10) 0 X dL_changed_50 rfl)) (kF1 (Z_ne_F X dL_changed_52 (by decide)))) (kX (L_iconst (v := I 1) X dL_changed_55 (by decide))) (kJ (S_goto X dL_changed_56 (by decide))) (kX (L_iconst (v := I 0) X dL_changed_59 (by decide)))) (k2 (O_iadd X dL_changed_60)) (ksai X dL_changed_61))
  (kretZ X C hr dL_changed_145 (KXE_b2i (KCE_and (KCE_and (KCE_tern (KCE_1 (kX (L_iload (x := done_10) 0 X dL_changed_62 rfl)) (kF1 (Z_ne_F X dL_changed_64 (by decide)))) (KCE_post (KCE_and (KCE_2 wI (kX (L_iload (x := told_) 6 X dL_changed_67 rfl)) (KXE_2 wI (kX (L_iload (x := now_7) 1 X dL_changed_69 rfl)) (kX (L_iconst (v := I 1) X dL_changed_71 (by decide))) (k2 (O_iadd X dL_changed_72))) (kF2 (C_eq_F X dL_changed_73 (by decide)))) (KCE_2 wI (KXE_2 wR (kX (L_aload_n (r := (some (sv + 20))) 3 X dL_changed_76 rfl rfl)) (kX (L_iload_n (x := meeting_) 5 X dL_changed_77 rfl rfl)) (kai X dL_changed_78)) (kX (L_sipush (v := I 4096) X dL_changed_79 (by decide))) (kF2 (C_lt_F X dL_changed_82 (by decide))))) (kJ (S_goto X dL_changed_85 (by decide)))) (KCE_2 wI (kX (L_iload (x := told_) 6 X dL_changed_88 rfl)) (kX (L_ldc (v := I (-1000003)) X dL_changed_90 kd_L_38)) (kF2 (C_eq_F X dL_changed_92 (by decide))))) (KCE_2 wI (KXE_3 (pB := pI) wR wI (kX (L_aload_n (r := (some sv)) 2 X dL_changed_95 rfl rfl)) (KXE_2 wI (KXE_2 wR (kX (L_aload_n (r := (some (sv + 20))) 3 X dL_changed_96 rfl rfl)) (kX (L_iload_n (x := meeting_) 5 X dL_changed_97 rfl rfl)) (kai X dL_changed_98)) (kX (L_bipush (v := I 8) X dL_changed_99 (by decide))) (krem X dL_changed_101)) (kX (L_iload_n (x := meeting_) 5 X dL_changed_102 rfl rfl)) (fun v0 v1 v2 st L a b hd hc hs h => by obtain ⟨rfl, h1⟩ := lgo_of h; exact k_callH (st := st) X htr (E_L_sequence sv v1 v2) lkh_sequence stl_sequence ml_L_160 rfl (by rw [hR]; exact ⟨Nat.le_of_ble_eq_true rfl, Nat.le_of_ble_eq_true rfl⟩) (Nat.le_trans hd (by decide)) ⟨hc, hs⟩ dL_changed_103 h1)) (KXE_2 wI (KXE_2 wI (KXE_2 wR (kX (L_aload_n (r := (some (sv + 20))) 3 X dL_changed_106 rfl rfl)) (kX (L_iload_n (x := meeting_) 5 X dL_changed_107 rfl rfl)) (kai X dL_changed_108)) (kX (L_bipush (v := I 8) X dL_changed_109 (by decide))) (kdiv X dL_changed_111)) (kX (L_sipush (v := I 512) X dL_changed_112 (by decide))) (krem X dL_changed_115)) (kF2 (C_eq_F X dL_changed_116 (by decide))))) (KCE_2 wI (KXE_2 (pB := pI) wR (kX (L_aload_n (r := (some sv)) 2 X dL_changed_119 rfl rfl)) (KXE_2 wI (KXE_2 wR (kX (L_aload_n (r := (some (sv + 20))) 3 X dL_changed_120 rfl rfl)) (kX (L_iload_n (x := meeting_) 5 X dL_changed_121 rfl rfl)) (kai X dL_changed_122)) (kX (L_bipush (v := I 8) X dL_changed_123 (by decide))) (krem X dL_changed_125)) (fun v0 v1 st L a b hd hc hs h => by obtain ⟨rfl, h1⟩ := lgo_of h; exact k_callH (st := st) X htr (E_L_mark sv v1) lkh_mark stl_mark ml_L_196 rfl (by rw [hR]; exact ⟨Nat.le_of_ble_eq_true rfl, Nat.le_of_ble_eq_true rfl⟩) (Nat.le_trans hd (by decide)) ⟨hc, hs⟩ dL_changed_126 h1)) (KXE_2 wR (kX (L_aload_n (r := (some (sv + 21))) 4 X dL_changed_129 rfl rfl)) (KXE_2 wI (KXE_2 wR (kX (L_aload_n (r := (some (sv + 20))) 3 X dL_changed_130 rfl rfl)) (kX (L_iload_n (x := meeting_) 5 X dL_changed_131 rfl rfl)) (kai X dL_changed_132)) (kX (L_bipush (v := I 8) X dL_changed_133 (by decide))) (krem X dL_changed_135)) (kai X dL_changed_136)) (kF2 (C_eq_F X dL_changed_137 (by decide))))) (kB (S_b1 X dL_changed_140 dL_changed_141 (by decide))) (kB (S_b0 X dL_changed_144)))))))) h0 (by rw [hR]; exact Nat.le_of_ble_eq_true rfl) (by rw [hR]; exact Nat.le_of_ble_eq_true rfl)
