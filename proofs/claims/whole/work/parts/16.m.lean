theorem dX7_next_0 : decode cX7_next 0 = .ok (.aload_n 0, 1) := by decide +kernel
theorem dX7_next_1 : decode cX7_next 1 = .ok (.getfield 22, 3) := by decide +kernel
theorem dX7_next_4 : decode cX7_next 4 = .ok (.iload_n 1, 1) := by decide +kernel
theorem dX7_next_5 : decode cX7_next 5 = .ok (.iaload, 1) := by decide +kernel
theorem dX7_next_6 : decode cX7_next 6 = .ok (.istore_n 2, 1) := by decide +kernel
theorem dX7_next_7 : decode cX7_next 7 = .ok (.aload_n 0, 1) := by decide +kernel
theorem dX7_next_8 : decode cX7_next 8 = .ok (.getfield 28, 3) := by decide +kernel
theorem dX7_next_11 : decode cX7_next 11 = .ok (.iload_n 2, 1) := by decide +kernel
theorem dX7_next_12 : decode cX7_next 12 = .ok (.baload, 1) := by decide +kernel
theorem dX7_next_13 : decode cX7_next 13 = .ok (.ifCond .eq 10, 3) := by decide +kernel
theorem dX7_next_16 : decode cX7_next 16 = .ok (.aload_n 0, 1) := by decide +kernel
theorem dX7_next_17 : decode cX7_next 17 = .ok (.getfield 184, 3) := by decide +kernel
theorem dX7_next_20 : decode cX7_next 20 = .ok (.goto 4, 3) := by decide +kernel
theorem dX7_next_23 : decode cX7_next 23 = .ok (.iload_n 2, 1) := by decide +kernel
theorem dX7_next_24 : decode cX7_next 24 = .ok (.istore_n 3, 1) := by decide +kernel
theorem dX7_next_25 : decode cX7_next 25 = .ok (.aload_n 0, 1) := by decide +kernel
theorem dX7_next_26 : decode cX7_next 26 = .ok (.dup, 1) := by decide +kernel
theorem dX7_next_27 : decode cX7_next 27 = .ok (.getfield 184, 3) := by decide +kernel
theorem dX7_next_30 : decode cX7_next 30 = .ok (.aload_n 0, 1) := by decide +kernel
theorem dX7_next_31 : decode cX7_next 31 = .ok (.getfield 28, 3) := by decide +kernel
theorem dX7_next_34 : decode cX7_next 34 = .ok (.iload_n 2, 1) := by decide +kernel
theorem dX7_next_35 : decode cX7_next 35 = .ok (.baload, 1) := by decide +kernel
theorem dX7_next_36 : decode cX7_next 36 = .ok (.ifCond .eq 7, 3) := by decide +kernel
theorem dX7_next_39 : decode cX7_next 39 = .ok (.iconst 1, 1) := by decide +kernel
theorem dX7_next_40 : decode cX7_next 40 = .ok (.goto 4, 3) := by decide +kernel
theorem dX7_next_43 : decode cX7_next 43 = .ok (.iconst 0, 1) := by decide +kernel
theorem dX7_next_44 : decode cX7_next 44 = .ok (.iadd, 1) := by decide +kernel
theorem dX7_next_45 : decode cX7_next 45 = .ok (.putfield 184, 3) := by decide +kernel
theorem dX7_next_48 : decode cX7_next 48 = .ok (.aload_n 0, 1) := by decide +kernel
theorem dX7_next_49 : decode cX7_next 49 = .ok (.getfield 32, 3) := by decide +kernel
theorem dX7_next_52 : decode cX7_next 52 = .ok (.iload_n 3, 1) := by decide +kernel
theorem dX7_next_53 : decode cX7_next 53 = .ok (.aload_n 0, 1) := by decide +kernel
theorem dX7_next_54 : decode cX7_next 54 = .ok (.getfield 32, 3) := by decide +kernel
theorem dX7_next_57 : decode cX7_next 57 = .ok (.iload_n 2, 1) := by decide +kernel
theorem dX7_next_58 : decode cX7_next 58 = .ok (.iaload, 1) := by decide +kernel
theorem dX7_next_59 : decode cX7_next 59 = .ok (.iconst 1, 1) := by decide +kernel
theorem dX7_next_60 : decode cX7_next 60 = .ok (.iadd, 1) := by decide +kernel
theorem dX7_next_61 : decode cX7_next 61 = .ok (.iastore, 1) := by decide +kernel
theorem dX7_next_62 : decode cX7_next 62 = .ok (.aload_n 0, 1) := by decide +kernel
theorem dX7_next_63 : decode cX7_next 63 = .ok (.getfield 35, 3) := by decide +kernel
theorem dX7_next_66 : decode cX7_next 66 = .ok (.iload_n 3, 1) := by decide +kernel
theorem dX7_next_67 : decode cX7_next 67 = .ok (.aload_n 0, 1) := by decide +kernel
theorem dX7_next_68 : decode cX7_next 68 = .ok (.getfield 35, 3) := by decide +kernel
theorem dX7_next_71 : decode cX7_next 71 = .ok (.iload_n 2, 1) := by decide +kernel
theorem dX7_next_72 : decode cX7_next 72 = .ok (.iaload, 1) := by decide +kernel
theorem dX7_next_73 : decode cX7_next 73 = .ok (.iastore, 1) := by decide +kernel
theorem dX7_next_74 : decode cX7_next 74 = .ok (.aload_n 0, 1) := by decide +kernel
theorem dX7_next_75 : decode cX7_next 75 = .ok (.getfield 38, 3) := by decide +kernel
theorem dX7_next_78 : decode cX7_next 78 = .ok (.iload_n 3, 1) := by decide +kernel
theorem dX7_next_79 : decode cX7_next 79 = .ok (.aload_n 0, 1) := by decide +kernel
theorem dX7_next_80 : decode cX7_next 80 = .ok (.getfield 38, 3) := by decide +kernel
theorem dX7_next_83 : decode cX7_next 83 = .ok (.iload_n 2, 1) := by decide +kernel
theorem dX7_next_84 : decode cX7_next 84 = .ok (.iaload, 1) := by decide +kernel
theorem dX7_next_85 : decode cX7_next 85 = .ok (.iastore, 1) := by decide +kernel
theorem dX7_next_86 : decode cX7_next 86 = .ok (.aload_n 0, 1) := by decide +kernel
theorem dX7_next_87 : decode cX7_next 87 = .ok (.getfield 41, 3) := by decide +kernel
theorem dX7_next_90 : decode cX7_next 90 = .ok (.iload_n 3, 1) := by decide +kernel
theorem dX7_next_91 : decode cX7_next 91 = .ok (.aload_n 0, 1) := by decide +kernel
theorem dX7_next_92 : decode cX7_next 92 = .ok (.getfield 41, 3) := by decide +kernel
theorem dX7_next_95 : decode cX7_next 95 = .ok (.iload_n 2, 1) := by decide +kernel
theorem dX7_next_96 : decode cX7_next 96 = .ok (.iaload, 1) := by decide +kernel
theorem dX7_next_97 : decode cX7_next 97 = .ok (.iastore, 1) := by decide +kernel
theorem dX7_next_98 : decode cX7_next 98 = .ok (.aload_n 0, 1) := by decide +kernel
theorem dX7_next_99 : decode cX7_next 99 = .ok (.getfield 44, 3) := by decide +kernel
theorem dX7_next_102 : decode cX7_next 102 = .ok (.iload_n 3, 1) := by decide +kernel
theorem dX7_next_103 : decode cX7_next 103 = .ok (.aload_n 0, 1) := by decide +kernel
theorem dX7_next_104 : decode cX7_next 104 = .ok (.getfield 44, 3) := by decide +kernel
theorem dX7_next_107 : decode cX7_next 107 = .ok (.iload_n 2, 1) := by decide +kernel
theorem dX7_next_108 : decode cX7_next 108 = .ok (.iaload, 1) := by decide +kernel
theorem dX7_next_109 : decode cX7_next 109 = .ok (.iastore, 1) := by decide +kernel
theorem dX7_next_110 : decode cX7_next 110 = .ok (.aload_n 0, 1) := by decide +kernel
theorem dX7_next_111 : decode cX7_next 111 = .ok (.getfield 47, 3) := by decide +kernel
theorem dX7_next_114 : decode cX7_next 114 = .ok (.iload_n 3, 1) := by decide +kernel
theorem dX7_next_115 : decode cX7_next 115 = .ok (.aload_n 0, 1) := by decide +kernel
theorem dX7_next_116 : decode cX7_next 116 = .ok (.getfield 47, 3) := by decide +kernel
theorem dX7_next_119 : decode cX7_next 119 = .ok (.iload_n 2, 1) := by decide +kernel
theorem dX7_next_120 : decode cX7_next 120 = .ok (.iaload, 1) := by decide +kernel
theorem dX7_next_121 : decode cX7_next 121 = .ok (.iastore, 1) := by decide +kernel
theorem dX7_next_122 : decode cX7_next 122 = .ok (.aload_n 0, 1) := by decide +kernel
theorem dX7_next_123 : decode cX7_next 123 = .ok (.getfield 50, 3) := by decide +kernel
theorem dX7_next_126 : decode cX7_next 126 = .ok (.iload_n 3, 1) := by decide +kernel
theorem dX7_next_127 : decode cX7_next 127 = .ok (.aload_n 0, 1) := by decide +kernel
theorem dX7_next_128 : decode cX7_next 128 = .ok (.getfield 50, 3) := by decide +kernel
theorem dX7_next_131 : decode cX7_next 131 = .ok (.iload_n 2, 1) := by decide +kernel
theorem dX7_next_132 : decode cX7_next 132 = .ok (.iaload, 1) := by decide +kernel
theorem dX7_next_133 : decode cX7_next 133 = .ok (.iastore, 1) := by decide +kernel
theorem dX7_next_134 : decode cX7_next 134 = .ok (.aload_n 0, 1) := by decide +kernel
theorem dX7_next_135 : decode cX7_next 135 = .ok (.getfield 53, 3) := by decide +kernel
theorem dX7_next_138 : decode cX7_next 138 = .ok (.iload_n 3, 1) := by decide +kernel
theorem dX7_next_139 : decode cX7_next 139 = .ok (.aload_n 0, 1) := by decide +kernel
theorem dX7_next_140 : decode cX7_next 140 = .ok (.getfield 53, 3) := by decide +kernel
theorem dX7_next_143 : decode cX7_next 143 = .ok (.iload_n 2, 1) := by decide +kernel
theorem dX7_next_144 : decode cX7_next 144 = .ok (.iaload, 1) := by decide +kernel
theorem dX7_next_145 : decode cX7_next 145 = .ok (.iastore, 1) := by decide +kernel
theorem dX7_next_146 : decode cX7_next 146 = .ok (.aload_n 0, 1) := by decide +kernel
theorem dX7_next_147 : decode cX7_next 147 = .ok (.getfield 56, 3) := by decide +kernel
theorem dX7_next_150 : decode cX7_next 150 = .ok (.iload_n 3, 1) := by decide +kernel
theorem dX7_next_151 : decode cX7_next 151 = .ok (.aload_n 0, 1) := by decide +kernel
theorem dX7_next_152 : decode cX7_next 152 = .ok (.getfield 56, 3) := by decide +kernel
theorem dX7_next_155 : decode cX7_next 155 = .ok (.iload_n 2, 1) := by decide +kernel
theorem dX7_next_156 : decode cX7_next 156 = .ok (.iaload, 1) := by decide +kernel
theorem dX7_next_157 : decode cX7_next 157 = .ok (.iastore, 1) := by decide +kernel
theorem dX7_next_158 : decode cX7_next 158 = .ok (.aload_n 0, 1) := by decide +kernel
theorem dX7_next_159 : decode cX7_next 159 = .ok (.getfield 59, 3) := by decide +kernel
theorem dX7_next_162 : decode cX7_next 162 = .ok (.iload_n 3, 1) := by decide +kernel
theorem dX7_next_163 : decode cX7_next 163 = .ok (.aload_n 0, 1) := by decide +kernel
theorem dX7_next_164 : decode cX7_next 164 = .ok (.getfield 59, 3) := by decide +kernel
theorem dX7_next_167 : decode cX7_next 167 = .ok (.iload_n 2, 1) := by decide +kernel
theorem dX7_next_168 : decode cX7_next 168 = .ok (.iaload, 1) := by decide +kernel
theorem dX7_next_169 : decode cX7_next 169 = .ok (.iastore, 1) := by decide +kernel
theorem dX7_next_170 : decode cX7_next 170 = .ok (.aload_n 0, 1) := by decide +kernel
theorem dX7_next_171 : decode cX7_next 171 = .ok (.getfield 62, 3) := by decide +kernel
theorem dX7_next_174 : decode cX7_next 174 = .ok (.iload_n 3, 1) := by decide +kernel
theorem dX7_next_175 : decode cX7_next 175 = .ok (.aload_n 0, 1) := by decide +kernel
theorem dX7_next_176 : decode cX7_next 176 = .ok (.getfield 62, 3) := by decide +kernel
theorem dX7_next_179 : decode cX7_next 179 = .ok (.iload_n 2, 1) := by decide +kernel
theorem dX7_next_180 : decode cX7_next 180 = .ok (.baload, 1) := by decide +kernel
theorem dX7_next_181 : decode cX7_next 181 = .ok (.bastore, 1) := by decide +kernel
theorem dX7_next_182 : decode cX7_next 182 = .ok (.aload_n 0, 1) := by decide +kernel
theorem dX7_next_183 : decode cX7_next 183 = .ok (.getfield 65, 3) := by decide +kernel
theorem dX7_next_186 : decode cX7_next 186 = .ok (.iload_n 3, 1) := by decide +kernel
theorem dX7_next_187 : decode cX7_next 187 = .ok (.aload_n 0, 1) := by decide +kernel
theorem dX7_next_188 : decode cX7_next 188 = .ok (.getfield 65, 3) := by decide +kernel
theorem dX7_next_191 : decode cX7_next 191 = .ok (.iload_n 2, 1) := by decide +kernel
theorem dX7_next_192 : decode cX7_next 192 = .ok (.laload, 1) := by decide +kernel
theorem dX7_next_193 : decode cX7_next 193 = .ok (.lastore, 1) := by decide +kernel
theorem dX7_next_194 : decode cX7_next 194 = .ok (.aload_n 0, 1) := by decide +kernel
theorem dX7_next_195 : decode cX7_next 195 = .ok (.getfield 69, 3) := by decide +kernel
theorem dX7_next_198 : decode cX7_next 198 = .ok (.iload_n 3, 1) := by decide +kernel
theorem dX7_next_199 : decode cX7_next 199 = .ok (.aload_n 0, 1) := by decide +kernel
theorem dX7_next_200 : decode cX7_next 200 = .ok (.getfield 69, 3) := by decide +kernel
theorem dX7_next_203 : decode cX7_next 203 = .ok (.iload_n 2, 1) := by decide +kernel
theorem dX7_next_204 : decode cX7_next 204 = .ok (.laload, 1) := by decide +kernel
theorem dX7_next_205 : decode cX7_next 205 = .ok (.lastore, 1) := by decide +kernel
theorem dX7_next_206 : decode cX7_next 206 = .ok (.aload_n 0, 1) := by decide +kernel
theorem dX7_next_207 : decode cX7_next 207 = .ok (.getfield 72, 3) := by decide +kernel
theorem dX7_next_210 : decode cX7_next 210 = .ok (.iload_n 3, 1) := by decide +kernel
theorem dX7_next_211 : decode cX7_next 211 = .ok (.aload_n 0, 1) := by decide +kernel
theorem dX7_next_212 : decode cX7_next 212 = .ok (.getfield 72, 3) := by decide +kernel
theorem dX7_next_215 : decode cX7_next 215 = .ok (.iload_n 2, 1) := by decide +kernel
theorem dX7_next_216 : decode cX7_next 216 = .ok (.laload, 1) := by decide +kernel
theorem dX7_next_217 : decode cX7_next 217 = .ok (.lastore, 1) := by decide +kernel
theorem dX7_next_218 : decode cX7_next 218 = .ok (.iconst 0, 1) := by decide +kernel
theorem dX7_next_219 : decode cX7_next 219 = .ok (.istore 4, 2) := by decide +kernel
theorem dX7_next_221 : decode cX7_next 221 = .ok (.iload 4, 2) := by decide +kernel
theorem dX7_next_223 : decode cX7_next 223 = .ok (.bipush 60, 2) := by decide +kernel
theorem dX7_next_225 : decode cX7_next 225 = .ok (.if_icmp .ge 33, 3) := by decide +kernel
theorem dX7_next_228 : decode cX7_next 228 = .ok (.aload_n 0, 1) := by decide +kernel
theorem dX7_next_229 : decode cX7_next 229 = .ok (.getfield 78, 3) := by decide +kernel
theorem dX7_next_232 : decode cX7_next 232 = .ok (.bipush 60, 2) := by decide +kernel
theorem dX7_next_234 : decode cX7_next 234 = .ok (.iload_n 3, 1) := by decide +kernel
theorem dX7_next_235 : decode cX7_next 235 = .ok (.imul, 1) := by decide +kernel
theorem dX7_next_236 : decode cX7_next 236 = .ok (.iload 4, 2) := by decide +kernel
theorem dX7_next_238 : decode cX7_next 238 = .ok (.iadd, 1) := by decide +kernel
theorem dX7_next_239 : decode cX7_next 239 = .ok (.aload_n 0, 1) := by decide +kernel
theorem dX7_next_240 : decode cX7_next 240 = .ok (.getfield 78, 3) := by decide +kernel
theorem dX7_next_243 : decode cX7_next 243 = .ok (.bipush 60, 2) := by decide +kernel
theorem dX7_next_245 : decode cX7_next 245 = .ok (.iload_n 2, 1) := by decide +kernel
theorem dX7_next_246 : decode cX7_next 246 = .ok (.imul, 1) := by decide +kernel
theorem dX7_next_247 : decode cX7_next 247 = .ok (.iload 4, 2) := by decide +kernel
theorem dX7_next_249 : decode cX7_next 249 = .ok (.iadd, 1) := by decide +kernel
theorem dX7_next_250 : decode cX7_next 250 = .ok (.iaload, 1) := by decide +kernel
theorem dX7_next_251 : decode cX7_next 251 = .ok (.iastore, 1) := by decide +kernel
theorem dX7_next_252 : decode cX7_next 252 = .ok (.iinc 4 1, 3) := by decide +kernel
theorem dX7_next_255 : decode cX7_next 255 = .ok (.goto (-34), 3) := by decide +kernel
theorem dX7_next_258 : decode cX7_next 258 = .ok (.iload_n 3, 1) := by decide +kernel
theorem dX7_next_259 : decode cX7_next 259 = .ok (.ireturn, 1) := by decide +kernel
theorem lk_X7_next : LK yX7_next cX7_next 5 (some .int) 1 := ⟨qW_at 1536 (by decide +kernel) rfl, qW_at 78 (by decide +kernel) rfl, by decide, by decide, by decide +kernel⟩
theorem im_X7_next : Cond.instanceMethod yX7_next ∈ qW := qW_at 1535 (by decide +kernel) rfl
theorem se_X7_next : Cond.selects RX7 yX7_next yX7_next ∈ qW := qW_at 39 (by decide +kernel) rfl
def F_X7_next (this : Nat) (its_ : Int32) : QX Int32 :=
  (xb (xb (xb (xp (some this)) fun v1 => xgr 8 5 v1) fun v2 => xb (xp its_) fun v3 => xai 0 v2 v3) fun from_4 =>
  (xb (xb (xb (xb (xb (xp (some this)) fun v5 => xgr 8 8 v5) fun v6 => xb (xp from_4) fun v7 => xai 1 v6 v7) fun v8 => xp (decide (¬ v8 = 0))) fun v10 => if v10 then (xb (xp (some this)) fun v9 => xgi 8 7 v9) else (xp from_4)) fun to_11 =>
  (xb (xb (xp (some this)) fun v17 => xb (xgi 8 7 v17) fun v18 => xb (xb (xb (xb (xb (xp (some this)) fun v12 => xgr 8 8 v12) fun v13 => xb (xp from_4) fun v14 => xai 1 v13 v14) fun v15 => xp (decide (¬ v15 = 0))) fun v16 => if v16 then (xp (1 : Int32)) else (xp (0 : Int32))) fun v19 => xb (xp (v18 + v19)) fun v20 => xsi 8 7 v17 v20) fun _ =>
  (xb (xb (xb (xp (some this)) fun v21 => xgr 8 9 v21) fun v27 => xb (xp to_11) fun v28 => xb (xb (xb (xb (xp (some this)) fun v22 => xgr 8 9 v22) fun v23 => xb (xp from_4) fun v24 => xai 0 v23 v24) fun v25 => xb (xp (1 : Int32)) fun v26 => (xp (v25 + v26))) fun v29 => xsai v27 v28 v29) fun _ =>
  (xb (xb (xb (xp (some this)) fun v30 => xgr 8 10 v30) fun v34 => xb (xp to_11) fun v35 => xb (xb (xb (xp (some this)) fun v31 => xgr 8 10 v31) fun v32 => xb (xp from_4) fun v33 => xai 0 v32 v33) fun v36 => xsai v34 v35 v36) fun _ =>
  (xb (xb (xb (xp (some this)) fun v37 => xgr 8 11 v37) fun v41 => xb (xp to_11) fun v42 => xb (xb (xb (xp (some this)) fun v38 => xgr 8 11 v38) fun v39 => xb (xp from_4) fun v40 => xai 0 v39 v40) fun v43 => xsai v41 v42 v43) fun _ =>
  (xb (xb (xb (xp (some this)) fun v44 => xgr 8 12 v44) fun v48 => xb (xp to_11) fun v49 => xb (xb (xb (xp (some this)) fun v45 => xgr 8 12 v45) fun v46 => xb (xp from_4) fun v47 => xai 0 v46 v47) fun v50 => xsai v48 v49 v50) fun _ =>
  (xb (xb (xb (xp (some this)) fun v51 => xgr 8 13 v51) fun v55 => xb (xp to_11) fun v56 => xb (xb (xb (xp (some this)) fun v52 => xgr 8 13 v52) fun v53 => xb (xp from_4) fun v54 => xai 0 v53 v54) fun v57 => xsai v55 v56 v57) fun _ =>
  (xb (xb (xb (xp (some this)) fun v58 => xgr 8 14 v58) fun v62 => xb (xp to_11) fun v63 => xb (xb (xb (xp (some this)) fun v59 => xgr 8 14 v59) fun v60 => xb (xp from_4) fun v61 => xai 0 v60 v61) fun v64 => xsai v62 v63 v64) fun _ =>
  (xb (xb (xb (xp (some this)) fun v65 => xgr 8 15 v65) fun v69 => xb (xp to_11) fun v70 => xb (xb (xb (xp (some this)) fun v66 => xgr 8 15 v66) fun v67 => xb (xp from_4) fun v68 => xai 0 v67 v68) fun v71 => xsai v69 v70 v71) fun _ =>
  (xb (xb (xb (xp (some this)) fun v72 => xgr 8 16 v72) fun v76 => xb (xp to_11) fun v77 => xb (xb (xb (xp (some this)) fun v73 => xgr 8 16 v73) fun v74 => xb (xp from_4) fun v75 => xai 0 v74 v75) fun v78 => xsai v76 v77 v78) fun _ =>
  (xb (xb (xb (xp (some this)) fun v79 => xgr 8 17 v79) fun v83 => xb (xp to_11) fun v84 => xb (xb (xb (xp (some this)) fun v80 => xgr 8 17 v80) fun v81 => xb (xp from_4) fun v82 => xai 0 v81 v82) fun v85 => xsai v83 v84 v85) fun _ =>
  (xb (xb (xb (xp (some this)) fun v86 => xgr 8 18 v86) fun v90 => xb (xp to_11) fun v91 => xb (xb (xb (xp (some this)) fun v87 => xgr 8 18 v87) fun v88 => xb (xp from_4) fun v89 => xai 0 v88 v89) fun v92 => xsai v90 v91 v92) fun _ =>
  (xb (xb (xb (xp (some this)) fun v93 => xgr 8 19 v93) fun v97 => xb (xp to_11) fun v98 => xb (xb (xb (xp (some this)) fun v94 => xgr 8 19 v94) fun v95 => xb (xp from_4) fun v96 => xai 1 v95 v96) fun v99 => xsaz v97 v98 v99) fun _ =>
  (xb (xb (xb (xp (some this)) fun v100 => xgr 8 20 v100) fun v104 => xb (xp to_11) fun v105 => xb (xb (xb (xp (some this)) fun v101 => xgr 8 20 v101) fun v102 => xb (xp from_4) fun v103 => xal v102 v103) fun v106 => xsal v104 v105 v106) fun _ =>
  (xb (xb (xb (xp (some this)) fun v107 => xgr 8 21 v107) fun v111 => xb (xp to_11) fun v112 => xb (xb (xb (xp (some this)) fun v108 => xgr 8 21 v108) fun v109 => xb (xp from_4) fun v110 => xal v109 v110) fun v113 => xsal v111 v112 v113) fun _ =>
  (xb (xb (xb (xp (some this)) fun v114 => xgr 8 22 v114) fun v118 => xb (xp to_11) fun v119 => xb (xb (xb (xp (some this)) fun v115 => xgr 8 22 v115) fun v116 => xb (xp from_4) fun v117 => xal v116 v117) fun v120 => xsal v118 v119 v120) fun _ =>
  (xb (xp (0 : Int32)) fun k_121 =>
  (xb (xl 2000 (fun (s122 : Int32) => (xb (xp s122) fun v123 => xb (xp (60 : Int32)) fun v124 => xp (decide (v123 < v124)))) (fun (s122 : Int32) =>
  (xb (xb (xb (xp (some this)) fun v125 => xgr 8 24 v125) fun v137 => xb (xb (xb (xp (60 : Int32)) fun v126 => xb (xp to_11) fun v127 => (xp (v126 * v127))) fun v128 => xb (xp s122) fun v129 => (xp (v128 + v129))) fun v138 => xb (xb (xb (xp (some this)) fun v130 => xgr 8 24 v130) fun v135 => xb (xb (xb (xp (60 : Int32)) fun v131 => xb (xp from_4) fun v132 => (xp (v131 * v132))) fun v133 => xb (xp s122) fun v134 => (xp (v133 + v134))) fun v136 => xai 0 v135 v136) fun v139 => xsai v137 v138 v139) fun _ =>
  (xp (s122 + 1)))) k_121) fun s140 =>
  (xp to_11))))))))))))))))))))
set_option maxRecDepth 100000 in
set_option maxHeartbeats 4000000 in
theorem M_X7_next (this : Nat) (its_ : Int32) : MM yX7_next cX7_next 5 (some .int) 0 0 0 0 encI [.ref this, .int its_] (F_X7_next this its_) := by
  refine MM_of (env0 := [(0, va_rf (some this)), (1, .int its_)]) (by decide) (by exact Nat.le_of_ble_eq_true rfl) (by rfl) (fun k mm res X C hR hN hr hname h => ?_)
  have X : CX k cX7_next RX7 := X
  have hT : TH k (fun e m' => res = (.error e, m')) := TH_of C
  have htr := C.2.2.2.1
  unfold F_X7_next at h
  exact SB_go (T := fun e m' => res = (.error e, m')) (RET := fun v m' => res = (.ok v, m')) (SB_let (XE_2 wR (XE_1 (L_aload_n (r := (some this)) 0 X dX7_next_0 rfl rfl) (O_gr (c := 8) (j := 5) X rfl inW7 (by decide) fl_X7_22 rfl dX7_next_1)) (L_iload_n (x := its_) 1 X dX7_next_4 rfl rfl) (O_ai X dX7_next_5)) (S_istore_n (ev := fun from_4 => [(2, .int from_4), (0, va_rf (some this)), (1, .int its_)]) X dX7_next_6 rfl (by rw [hN]; decide) (fun _ => rfl)) fun from_4 =>
  (SB_let (XE_tern (CE_1 (XE_2 wR (XE_1 (L_aload_n (r := (some this)) 1 X dX7_next_7 rfl rfl) (O_gr (c := 8) (j := 8) X rfl inW7 (by decide) fl_X7_28 rfl dX7_next_8)) (L_iload_n (x := from_4) 0 X dX7_next_11 rfl rfl) (O_az X dX7_next_12)) (Z_ne_F X dX7_next_13 (by decide))) (XE_1 (L_aload_n (r := (some this)) 1 X dX7_next_16 rfl rfl) (O_gi (c := 8) (j := 7) X rfl inW7 (by decide) fl_X7_184 rfl dX7_next_17)) (S_goto X dX7_next_20 (by decide)) (L_iload_n (x := from_4) 0 X dX7_next_23 rfl rfl)) (S_istore_n (ev := fun to_11 => [(3, .int to_11), (2, .int from_4), (0, va_rf (some this)), (1, .int its_)]) X dX7_next_24 rfl (by rw [hN]; decide) (fun _ => rfl)) fun to_11 =>
  (SB_do (XE_dup wI (L_aload_n (r := (some this)) 2 X dX7_next_25 rfl rfl) (S_dup X dX7_next_26) (O_gi (c := 8) (j := 7) X rfl inW7 (by decide) fl_X7_184 rfl dX7_next_27) (XE_tern (CE_1 (XE_2 wR (XE_1 (L_aload_n (r := (some this)) 2 X dX7_next_30 rfl rfl) (O_gr (c := 8) (j := 8) X rfl inW7 (by decide) fl_X7_28 rfl dX7_next_31)) (L_iload_n (x := from_4) 1 X dX7_next_34 rfl rfl) (O_az X dX7_next_35)) (Z_ne_F X dX7_next_36 (by decide))) (L_iconst (v := 1) X dX7_next_39 (by decide)) (S_goto X dX7_next_40 (by decide)) (L_iconst (v := 0) X dX7_next_43 (by decide))) (O_iadd X dX7_next_44) (O_si (c := 8) (j := 7) tyX7 X rfl inW7 tyX7_ok nmX7 (by decide) fl_X7_184 (Or.inl rfl) rfl (by decide +kernel) dX7_next_45))
  (SB_do (XE_3 wR wI (XE_1 (L_aload_n (r := (some this)) 2 X dX7_next_48 rfl rfl) (O_gr (c := 8) (j := 9) X rfl inW7 (by decide) fl_X7_32 rfl dX7_next_49)) (L_iload_n (x := to_11) 0 X dX7_next_52 rfl rfl) (XE_2 wI (XE_2 wR (XE_1 (L_aload_n (r := (some this)) 2 X dX7_next_53 rfl rfl) (O_gr (c := 8) (j := 9) X rfl inW7 (by decide) fl_X7_32 rfl dX7_next_54)) (L_iload_n (x := from_4) 1 X dX7_next_57 rfl rfl) (O_ai X dX7_next_58)) (L_iconst (v := 1) X dX7_next_59 (by decide)) (O_iadd X dX7_next_60)) (O_sai X dX7_next_61))
  (SB_do (XE_3 wR wI (XE_1 (L_aload_n (r := (some this)) 2 X dX7_next_62 rfl rfl) (O_gr (c := 8) (j := 10) X rfl inW7 (by decide) fl_X7_35 rfl dX7_next_63)) (L_iload_n (x := to_11) 0 X dX7_next_66 rfl rfl) (XE_2 wR (XE_1 (L_aload_n (r := (some this)) 2 X dX7_next_67 rfl rfl) (O_gr (c := 8) (j := 10) X rfl inW7 (by decide) fl_X7_35 rfl dX7_next_68)) (L_iload_n (x := from_4) 1 X dX7_next_71 rfl rfl) (O_ai X dX7_next_72)) (O_sai X dX7_next_73))
  (SB_do (XE_3 wR wI (XE_1 (L_aload_n (r := (some this)) 2 X dX7_next_74 rfl rfl) (O_gr (c := 8) (j := 11) X rfl inW7 (by decide) fl_X7_38 rfl dX7_next_75)) (L_iload_n (x := to_11) 0 X dX7_next_78 rfl rfl) (XE_2 wR (XE_1 (L_aload_n (r := (some this)) 2 X dX7_next_79 rfl rfl) (O_gr (c := 8) (j := 11) X rfl inW7 (by decide) fl_X7_38 rfl dX7_next_80)) (L_iload_n (x := from_4) 1 X dX7_next_83 rfl rfl) (O_ai X dX7_next_84)) (O_sai X dX7_next_85))
  (SB_do (XE_3 wR wI (XE_1 (L_aload_n (r := (some this)) 2 X dX7_next_86 rfl rfl) (O_gr (c := 8) (j := 12) X rfl inW7 (by decide) fl_X7_41 rfl dX7_next_87)) (L_iload_n (x := to_11) 0 X dX7_next_90 rfl rfl) (XE_2 wR (XE_1 (L_aload_n (r := (some this)) 2 X dX7_next_91 rfl rfl) (O_gr (c := 8) (j := 12) X rfl inW7 (by decide) fl_X7_41 rfl dX7_next_92)) (L_iload_n (x := from_4) 1 X dX7_next_95 rfl rfl) (O_ai X dX7_next_96)) (O_sai X dX7_next_97))
  (SB_do (XE_3 wR wI (XE_1 (L_aload_n (r := (some this)) 2 X dX7_next_98 rfl rfl) (O_gr (c := 8) (j := 13) X rfl inW7 (by decide) fl_X7_44 rfl dX7_next_99)) (L_iload_n (x := to_11) 0 X dX7_next_102 rfl rfl) (XE_2 wR (XE_1 (L_aload_n (r := (some this)) 2 X dX7_next_103 rfl rfl) (O_gr (c := 8) (j := 13) X rfl inW7 (by decide) fl_X7_44 rfl dX7_next_104)) (L_iload_n (x := from_4) 1 X dX7_next_107 rfl rfl) (O_ai X dX7_next_108)) (O_sai X dX7_next_109))
  (SB_do (XE_3 wR wI (XE_1 (L_aload_n (r := (some this)) 2 X dX7_next_110 rfl rfl) (O_gr (c := 8) (j := 14) X rfl inW7 (by decide) fl_X7_47 rfl dX7_next_111)) (L_iload_n (x := to_11) 0 X dX7_next_114 rfl rfl) (XE_2 wR (XE_1 (L_aload_n (r := (some this)) 2 X dX7_next_115 rfl rfl) (O_gr (c := 8) (j := 14) X rfl inW7 (by decide) fl_X7_47 rfl dX7_next_116)) (L_iload_n (x := from_4) 1 X dX7_next_119 rfl rfl) (O_ai X dX7_next_120)) (O_sai X dX7_next_121))
  (SB_do (XE_3 wR wI (XE_1 (L_aload_n (r := (some this)) 2 X dX7_next_122 rfl rfl) (O_gr (c := 8) (j := 15) X rfl inW7 (by decide) fl_X7_50 rfl dX7_next_123)) (L_iload_n (x := to_11) 0 X dX7_next_126 rfl rfl) (XE_2 wR (XE_1 (L_aload_n (r := (some this)) 2 X dX7_next_127 rfl rfl) (O_gr (c := 8) (j := 15) X rfl inW7 (by decide) fl_X7_50 rfl dX7_next_128)) (L_iload_n (x := from_4) 1 X dX7_next_131 rfl rfl) (O_ai X dX7_next_132)) (O_sai X dX7_next_133))
  (SB_do (XE_3 wR wI (XE_1 (L_aload_n (r := (some this)) 2 X dX7_next_134 rfl rfl) (O_gr (c := 8) (j := 16) X rfl inW7 (by decide) fl_X7_53 rfl dX7_next_135)) (L_iload_n (x := to_11) 0 X dX7_next_138 rfl rfl) (XE_2 wR (XE_1 (L_aload_n (r := (some this)) 2 X dX7_next_139 rfl rfl) (O_gr (c := 8) (j := 16) X rfl inW7 (by decide) fl_X7_53 rfl dX7_next_140)) (L_iload_n (x := from_4) 1 X dX7_next_143 rfl rfl) (O_ai X dX7_next_144)) (O_sai X dX7_next_145))
  (SB_do (XE_3 wR wI (XE_1 (L_aload_n (r := (some this)) 2 X dX7_next_146 rfl rfl) (O_gr (c := 8) (j := 17) X rfl inW7 (by decide) fl_X7_56 rfl dX7_next_147)) (L_iload_n (x := to_11) 0 X dX7_next_150 rfl rfl) (XE_2 wR (XE_1 (L_aload_n (r := (some this)) 2 X dX7_next_151 rfl rfl) (O_gr (c := 8) (j := 17) X rfl inW7 (by decide) fl_X7_56 rfl dX7_next_152)) (L_iload_n (x := from_4) 1 X dX7_next_155 rfl rfl) (O_ai X dX7_next_156)) (O_sai X dX7_next_157))
  (SB_do (XE_3 wR wI (XE_1 (L_aload_n (r := (some this)) 2 X dX7_next_158 rfl rfl) (O_gr (c := 8) (j := 18) X rfl inW7 (by decide) fl_X7_59 rfl dX7_next_159)) (L_iload_n (x := to_11) 0 X dX7_next_162 rfl rfl) (XE_2 wR (XE_1 (L_aload_n (r := (some this)) 2 X dX7_next_163 rfl rfl) (O_gr (c := 8) (j := 18) X rfl inW7 (by decide) fl_X7_59 rfl dX7_next_164)) (L_iload_n (x := from_4) 1 X dX7_next_167 rfl rfl) (O_ai X dX7_next_168)) (O_sai X dX7_next_169))
  (SB_do (XE_3 wR wI (XE_1 (L_aload_n (r := (some this)) 2 X dX7_next_170 rfl rfl) (O_gr (c := 8) (j := 19) X rfl inW7 (by decide) fl_X7_62 rfl dX7_next_171)) (L_iload_n (x := to_11) 0 X dX7_next_174 rfl rfl) (XE_2 wR (XE_1 (L_aload_n (r := (some this)) 2 X dX7_next_175 rfl rfl) (O_gr (c := 8) (j := 19) X rfl inW7 (by decide) fl_X7_62 rfl dX7_next_176)) (L_iload_n (x := from_4) 1 X dX7_next_179 rfl rfl) (O_az X dX7_next_180)) (O_saz X dX7_next_181))
  (SB_do (XE_3 wR wI (XE_1 (L_aload_n (r := (some this)) 2 X dX7_next_182 rfl rfl) (O_gr (c := 8) (j := 20) X rfl inW7 (by decide) fl_X7_65 rfl dX7_next_183)) (L_iload_n (x := to_11) 0 X dX7_next_186 rfl rfl) (XE_2 wR (XE_1 (L_aload_n (r := (some this)) 2 X dX7_next_187 rfl rfl) (O_gr (c := 8) (j := 20) X rfl inW7 (by decide) fl_X7_65 rfl dX7_next_188)) (L_iload_n (x := from_4) 1 X dX7_next_191 rfl rfl) (O_al X dX7_next_192)) (O_sal X dX7_next_193))
  (SB_do (XE_3 wR wI (XE_1 (L_aload_n (r := (some this)) 2 X dX7_next_194 rfl rfl) (O_gr (c := 8) (j := 21) X rfl inW7 (by decide) fl_X7_69 rfl dX7_next_195)) (L_iload_n (x := to_11) 0 X dX7_next_198 rfl rfl) (XE_2 wR (XE_1 (L_aload_n (r := (some this)) 2 X dX7_next_199 rfl rfl) (O_gr (c := 8) (j := 21) X rfl inW7 (by decide) fl_X7_69 rfl dX7_next_200)) (L_iload_n (x := from_4) 1 X dX7_next_203 rfl rfl) (O_al X dX7_next_204)) (O_sal X dX7_next_205))
  (SB_do (XE_3 wR wI (XE_1 (L_aload_n (r := (some this)) 2 X dX7_next_206 rfl rfl) (O_gr (c := 8) (j := 22) X rfl inW7 (by decide) fl_X7_72 rfl dX7_next_207)) (L_iload_n (x := to_11) 0 X dX7_next_210 rfl rfl) (XE_2 wR (XE_1 (L_aload_n (r := (some this)) 2 X dX7_next_211 rfl rfl) (O_gr (c := 8) (j := 22) X rfl inW7 (by decide) fl_X7_72 rfl dX7_next_212)) (L_iload_n (x := from_4) 1 X dX7_next_215 rfl rfl) (O_al X dX7_next_216)) (O_sal X dX7_next_217))
  (SB_let (L_iconst (v := 0) X dX7_next_218 (by decide)) (S_istore (ev := fun k_121 => [(4, .int k_121), (3, .int to_11), (2, .int from_4), (0, va_rf (some this)), (1, .int its_)]) X dX7_next_219 (by rw [hN]; decide) (fun _ => rfl)) fun k_121 =>
  (SB_seq (ST_loop (σ := Int32) (upd := (fun (s : Int32) => [(4, .int s), (3, .int to_11), (2, .int from_4), (0, va_rf (some this)), (1, .int its_)])) (s0 := k_121) (n := 2000) (fun mm a b h => GG_sub [0, 1, 2, 3, 4] rfl h)
  (fun s122 => (CE_2 wI (L_iload (x := s122) 0 X dX7_next_221 rfl) (L_bipush (v := (60)) X dX7_next_223 (by decide)) (C_lt_F X dX7_next_225 (by decide))))
  (fun s122 => (ST_post (ST_do (XE_3 wR wI (XE_1 (L_aload_n (r := (some this)) 3 X dX7_next_228 rfl rfl) (O_gr (c := 8) (j := 24) X rfl inW7 (by decide) fl_X7_78 rfl dX7_next_229)) (XE_2 wI (XE_2 wI (L_bipush (v := (60)) X dX7_next_232 (by decide)) (L_iload_n (x := to_11) 1 X dX7_next_234 rfl rfl) (O_imul X dX7_next_235)) (L_iload (x := s122) 0 X dX7_next_236 rfl) (O_iadd X dX7_next_238)) (XE_2 wR (XE_1 (L_aload_n (r := (some this)) 3 X dX7_next_239 rfl rfl) (O_gr (c := 8) (j := 24) X rfl inW7 (by decide) fl_X7_78 rfl dX7_next_240)) (XE_2 wI (XE_2 wI (L_bipush (v := (60)) X dX7_next_243 (by decide)) (L_iload_n (x := from_4) 2 X dX7_next_245 rfl rfl) (O_imul X dX7_next_246)) (L_iload (x := s122) 0 X dX7_next_247 rfl) (O_iadd X dX7_next_249)) (O_ai X dX7_next_250)) (O_sai X dX7_next_251))
  (ST_pre (env' := [(4, .int (s122 + 1)), (3, .int to_11), (2, .int from_4), (0, va_rf (some this)), (1, .int its_)]) (S_iinc 0 X dX7_next_252 rfl rfl (by rw [hN]; decide) rfl)
  (ST_done (upd := (fun (s : Int32) => [(4, .int s), (3, .int to_11), (2, .int from_4), (0, va_rf (some this)), (1, .int its_)])) (s := (s122 + 1)) [0, 1, 2, 3, 4] rfl))) fun _ mm a b h => S_goto X dX7_next_255 (by decide) [] mm a b h))) fun s140 =>
  (SB_retI X C hr dX7_next_259 (L_iload_n (x := to_11) 1 X dX7_next_258 rfl rfl))))))))))))))))))))) h (by rw [hR]; decide) (by rw [hR]; decide)
theorem dX7_holds_0 : decode cX7_holds 0 = .ok (.aload_n 0, 1) := by decide +kernel
theorem dX7_holds_1 : decode cX7_holds 1 = .ok (.iload_n 2, 1) := by decide +kernel
theorem dX7_holds_2 : decode cX7_holds 2 = .ok (.invokevirtual 187, 3) := by decide +kernel
theorem dX7_holds_5 : decode cX7_holds 5 = .ok (.aload_n 0, 1) := by decide +kernel
theorem dX7_holds_6 : decode cX7_holds 6 = .ok (.getfield 22, 3) := by decide +kernel
theorem dX7_holds_9 : decode cX7_holds 9 = .ok (.iload_n 1, 1) := by decide +kernel
theorem dX7_holds_10 : decode cX7_holds 10 = .ok (.iload_n 2, 1) := by decide +kernel
theorem dX7_holds_11 : decode cX7_holds 11 = .ok (.iastore, 1) := by decide +kernel
theorem dX7_holds_12 : decode cX7_holds 12 = .ok (.aload_n 0, 1) := by decide +kernel
theorem dX7_holds_13 : decode cX7_holds 13 = .ok (.aload_n 0, 1) := by decide +kernel
theorem dX7_holds_14 : decode cX7_holds 14 = .ok (.getfield 19, 3) := by decide +kernel
theorem dX7_holds_17 : decode cX7_holds 17 = .ok (.iload_n 1, 1) := by decide +kernel
theorem dX7_holds_18 : decode cX7_holds 18 = .ok (.iaload, 1) := by decide +kernel
theorem dX7_holds_19 : decode cX7_holds 19 = .ok (.iload_n 1, 1) := by decide +kernel
theorem dX7_holds_20 : decode cX7_holds 20 = .ok (.invokevirtual 191, 3) := by decide +kernel
theorem dX7_holds_23 : decode cX7_holds 23 = .ok (.aload_n 0, 1) := by decide +kernel
theorem dX7_holds_24 : decode cX7_holds 24 = .ok (.getfield 32, 3) := by decide +kernel
theorem dX7_holds_27 : decode cX7_holds 27 = .ok (.iload_n 2, 1) := by decide +kernel
theorem dX7_holds_28 : decode cX7_holds 28 = .ok (.iaload, 1) := by decide +kernel
theorem dX7_holds_29 : decode cX7_holds 29 = .ok (.ireturn, 1) := by decide +kernel
theorem lk_X7_holds : LK yX7_holds cX7_holds 3 (some .int) 2 := ⟨qW_at 1498 (by decide +kernel) rfl, qW_at 78 (by decide +kernel) rfl, by decide, by decide, by decide +kernel⟩
theorem im_X7_holds : Cond.instanceMethod yX7_holds ∈ qW := qW_at 1497 (by decide +kernel) rfl
theorem se_X7_holds : Cond.selects RX7 yX7_holds yX7_holds ∈ qW := qW_at 32 (by decide +kernel) rfl
def F_X7_holds (this : Nat) (its_ : Int32) (which_ : Int32) : QX Int32 :=
  (xb (xb (xp (some this)) fun v1 => xb (xp which_) fun v2 => xo 8 v1 fun q => F_X7_laysDates q v2) fun _ =>
  (xb (xb (xb (xp (some this)) fun v3 => xgr 8 5 v3) fun v4 => xb (xp its_) fun v5 => xb (xp which_) fun v6 => xsai v4 v5 v6) fun _ =>
  (xb (xb (xp (some this)) fun v10 => xb (xb (xb (xp (some this)) fun v7 => xgr 8 4 v7) fun v8 => xb (xp its_) fun v9 => xai 0 v8 v9) fun v11 => xb (xp its_) fun v12 => xo 8 v10 fun q => F_X7_marks q v11 v12) fun _ =>
  (xb (xb (xp (some this)) fun v13 => xgr 8 9 v13) fun v14 => xb (xp which_) fun v15 => xai 0 v14 v15))))
set_option maxRecDepth 100000 in
set_option maxHeartbeats 4000000 in
theorem M_X7_holds (this : Nat) (its_ : Int32) (which_ : Int32) : MM yX7_holds cX7_holds 3 (some .int) 3 69 0 0 encI [.ref this, .int its_, .int which_] (F_X7_holds this its_ which_) := by
  refine MM_of (env0 := [(0, va_rf (some this)), (1, .int its_), (2, .int which_)]) (by decide) (by exact Nat.le_of_ble_eq_true rfl) (by rfl) (fun k mm res X C hR hN hr hname h => ?_)
  have X : CX k cX7_holds RX7 := X
  have hT : TH k (fun e m' => res = (.error e, m')) := TH_of C
  have htr := C.2.2.2.1
  unfold F_X7_holds at h
  exact SB_go (T := fun e m' => res = (.error e, m')) (RET := fun v m' => res = (.ok v, m')) (SB_do (XE_2 (pB := pU) wR (L_aload_n (r := (some this)) 0 X dX7_holds_0 rfl rfl) (L_iload_n (x := which_) 2 X dX7_holds_1 rfl rfl) (fun v0 v1 st mm a b hd hc hs h => g_callVo (st := st) (cI := 8) X hT htr rfl (fun q => M_X7_laysDates q v1) lk_X7_laysDates im_X7_laysDates se_X7_laysDates ml_X7_187 rfl (by rw [hR]; exact ⟨Nat.le_of_ble_eq_true rfl, Nat.le_of_ble_eq_true rfl⟩) (Nat.le_trans hd (by decide)) ⟨hc, hs⟩ dX7_holds_2 h))
  (SB_do (XE_3 wR wI (XE_1 (L_aload_n (r := (some this)) 0 X dX7_holds_5 rfl rfl) (O_gr (c := 8) (j := 5) X rfl inW7 (by decide) fl_X7_22 rfl dX7_holds_6)) (L_iload_n (x := its_) 1 X dX7_holds_9 rfl rfl) (L_iload_n (x := which_) 2 X dX7_holds_10 rfl rfl) (O_sai X dX7_holds_11))
  (SB_do (XE_3 (pB := pU) wR wI (L_aload_n (r := (some this)) 0 X dX7_holds_12 rfl rfl) (XE_2 wR (XE_1 (L_aload_n (r := (some this)) 0 X dX7_holds_13 rfl rfl) (O_gr (c := 8) (j := 4) X rfl inW7 (by decide) fl_X7_19 rfl dX7_holds_14)) (L_iload_n (x := its_) 1 X dX7_holds_17 rfl rfl) (O_ai X dX7_holds_18)) (L_iload_n (x := its_) 1 X dX7_holds_19 rfl rfl) (fun v0 v1 v2 st mm a b hd hc hs h => g_callVo (st := st) (cI := 8) X hT htr rfl (fun q => M_X7_marks q v1 v2) lk_X7_marks im_X7_marks se_X7_marks ml_X7_191 rfl (by rw [hR]; exact ⟨Nat.le_of_ble_eq_true rfl, Nat.le_of_ble_eq_true rfl⟩) (Nat.le_trans hd (by decide)) ⟨hc, hs⟩ dX7_holds_20 h))
  (SB_retI X C hr dX7_holds_29 (XE_2 wR (XE_1 (L_aload_n (r := (some this)) 0 X dX7_holds_23 rfl rfl) (O_gr (c := 8) (j := 9) X rfl inW7 (by decide) fl_X7_32 rfl dX7_holds_24)) (L_iload_n (x := which_) 2 X dX7_holds_27 rfl rfl) (O_ai X dX7_holds_28)))))) h (by rw [hR]; decide) (by rw [hR]; decide)
theorem dX7_stands_0 : decode cX7_stands 0 = .ok (.aload_n 0, 1) := by decide +kernel
theorem dX7_stands_1 : decode cX7_stands 1 = .ok (.getfield 78, 3) := by decide +kernel
theorem dX7_stands_4 : decode cX7_stands 4 = .ok (.bipush 60, 2) := by decide +kernel
theorem dX7_stands_6 : decode cX7_stands 6 = .ok (.iload_n 1, 1) := by decide +kernel
theorem dX7_stands_7 : decode cX7_stands 7 = .ok (.imul, 1) := by decide +kernel
theorem dX7_stands_8 : decode cX7_stands 8 = .ok (.iload_n 2, 1) := by decide +kernel
theorem dX7_stands_9 : decode cX7_stands 9 = .ok (.iadd, 1) := by decide +kernel
theorem dX7_stands_10 : decode cX7_stands 10 = .ok (.iload_n 3, 1) := by decide +kernel
theorem dX7_stands_11 : decode cX7_stands 11 = .ok (.sipush 2048, 3) := by decide +kernel
theorem dX7_stands_14 : decode cX7_stands 14 = .ok (.aload_n 0, 1) := by decide +kernel
theorem dX7_stands_15 : decode cX7_stands 15 = .ok (.getfield 32, 3) := by decide +kernel
theorem dX7_stands_18 : decode cX7_stands 18 = .ok (.iload_n 1, 1) := by decide +kernel
theorem dX7_stands_19 : decode cX7_stands 19 = .ok (.iaload, 1) := by decide +kernel
theorem dX7_stands_20 : decode cX7_stands 20 = .ok (.imul, 1) := by decide +kernel
theorem dX7_stands_21 : decode cX7_stands 21 = .ok (.iadd, 1) := by decide +kernel
theorem dX7_stands_22 : decode cX7_stands 22 = .ok (.iastore, 1) := by decide +kernel
theorem dX7_stands_23 : decode cX7_stands 23 = .ok (.return_, 1) := by decide +kernel
theorem lk_X7_stands : LK yX7_stands cX7_stands 4 none 3 := ⟨qW_at 1548 (by decide +kernel) rfl, qW_at 78 (by decide +kernel) rfl, by decide, by decide, by decide +kernel⟩
theorem im_X7_stands : Cond.instanceMethod yX7_stands ∈ qW := qW_at 1547 (by decide +kernel) rfl
theorem se_X7_stands : Cond.selects RX7 yX7_stands yX7_stands ∈ qW := qW_at 42 (by decide +kernel) rfl
def F_X7_stands (this : Nat) (which_ : Int32) (when_ : Int32) (clock_ : Int32) : QX Unit :=
  (xb (xb (xb (xp (some this)) fun v1 => xgr 8 24 v1) fun v13 => xb (xb (xb (xp (60 : Int32)) fun v2 => xb (xp which_) fun v3 => (xp (v2 * v3))) fun v4 => xb (xp when_) fun v5 => (xp (v4 + v5))) fun v14 => xb (xb (xp clock_) fun v11 => xb (xb (xp (2048 : Int32)) fun v9 => xb (xb (xb (xp (some this)) fun v6 => xgr 8 9 v6) fun v7 => xb (xp which_) fun v8 => xai 0 v7 v8) fun v10 => (xp (v9 * v10))) fun v12 => (xp (v11 + v12))) fun v15 => xsai v13 v14 v15) fun _ =>
  (xp ()))
set_option maxRecDepth 100000 in
set_option maxHeartbeats 4000000 in
theorem M_X7_stands (this : Nat) (which_ : Int32) (when_ : Int32) (clock_ : Int32) : MM yX7_stands cX7_stands 4 none 0 0 0 0 encU [.ref this, .int which_, .int when_, .int clock_] (F_X7_stands this which_ when_ clock_) := by
  refine MM_of (env0 := [(0, va_rf (some this)), (1, .int which_), (2, .int when_), (3, .int clock_)]) (by decide) (by exact Nat.le_of_ble_eq_true rfl) (by rfl) (fun k mm res X C hR hN hr hname h => ?_)
  have X : CX k cX7_stands RX7 := X
  have hT : TH k (fun e m' => res = (.error e, m')) := TH_of C
  have htr := C.2.2.2.1
  unfold F_X7_stands at h
  exact SB_go (T := fun e m' => res = (.error e, m')) (RET := fun v m' => res = (.ok v, m')) (SB_do (XE_3 wR wI (XE_1 (L_aload_n (r := (some this)) 0 X dX7_stands_0 rfl rfl) (O_gr (c := 8) (j := 24) X rfl inW7 (by decide) fl_X7_78 rfl dX7_stands_1)) (XE_2 wI (XE_2 wI (L_bipush (v := (60)) X dX7_stands_4 (by decide)) (L_iload_n (x := which_) 1 X dX7_stands_6 rfl rfl) (O_imul X dX7_stands_7)) (L_iload_n (x := when_) 2 X dX7_stands_8 rfl rfl) (O_iadd X dX7_stands_9)) (XE_2 wI (L_iload_n (x := clock_) 3 X dX7_stands_10 rfl rfl) (XE_2 wI (L_sipush (v := (2048)) X dX7_stands_11 (by decide)) (XE_2 wR (XE_1 (L_aload_n (r := (some this)) 0 X dX7_stands_14 rfl rfl) (O_gr (c := 8) (j := 9) X rfl inW7 (by decide) fl_X7_32 rfl dX7_stands_15)) (L_iload_n (x := which_) 1 X dX7_stands_18 rfl rfl) (O_ai X dX7_stands_19)) (O_imul X dX7_stands_20)) (O_iadd X dX7_stands_21)) (O_sai X dX7_stands_22))
  (SB_retU X C hr dX7_stands_23)) h (by rw [hR]; decide) (by rw [hR]; decide)
theorem dX7_goal_0 : decode cX7_goal 0 = .ok (.aload_n 0, 1) := by decide +kernel
theorem dX7_goal_1 : decode cX7_goal 1 = .ok (.getfield 78, 3) := by decide +kernel
theorem dX7_goal_4 : decode cX7_goal 4 = .ok (.bipush 60, 2) := by decide +kernel
theorem dX7_goal_6 : decode cX7_goal 6 = .ok (.iload_n 1, 1) := by decide +kernel
theorem dX7_goal_7 : decode cX7_goal 7 = .ok (.imul, 1) := by decide +kernel
theorem dX7_goal_8 : decode cX7_goal 8 = .ok (.iload_n 2, 1) := by decide +kernel
theorem dX7_goal_9 : decode cX7_goal 9 = .ok (.iadd, 1) := by decide +kernel
theorem dX7_goal_10 : decode cX7_goal 10 = .ok (.iaload, 1) := by decide +kernel
theorem dX7_goal_11 : decode cX7_goal 11 = .ok (.sipush 2048, 3) := by decide +kernel
theorem dX7_goal_14 : decode cX7_goal 14 = .ok (.irem, 1) := by decide +kernel
theorem dX7_goal_15 : decode cX7_goal 15 = .ok (.ireturn, 1) := by decide +kernel
theorem lk_X7_goal : LK yX7_goal cX7_goal 3 (some .int) 2 := ⟨qW_at 1544 (by decide +kernel) rfl, qW_at 78 (by decide +kernel) rfl, by decide, by decide, by decide +kernel⟩
theorem im_X7_goal : Cond.instanceMethod yX7_goal ∈ qW := qW_at 1543 (by decide +kernel) rfl
theorem se_X7_goal : Cond.selects RX7 yX7_goal yX7_goal ∈ qW := qW_at 41 (by decide +kernel) rfl
def F_X7_goal (this : Nat) (which_ : Int32) (when_ : Int32) : QX Int32 :=
  (xb (xb (xb (xp (some this)) fun v1 => xgr 8 24 v1) fun v6 => xb (xb (xb (xp (60 : Int32)) fun v2 => xb (xp which_) fun v3 => (xp (v2 * v3))) fun v4 => xb (xp when_) fun v5 => (xp (v4 + v5))) fun v7 => xai 0 v6 v7) fun v8 => xb (xp (2048 : Int32)) fun v9 => (xrem v8 v9))
set_option maxRecDepth 100000 in
set_option maxHeartbeats 4000000 in
theorem M_X7_goal (this : Nat) (which_ : Int32) (when_ : Int32) : MM yX7_goal cX7_goal 3 (some .int) 0 0 0 0 encI [.ref this, .int which_, .int when_] (F_X7_goal this which_ when_) := by
  refine MM_of (env0 := [(0, va_rf (some this)), (1, .int which_), (2, .int when_)]) (by decide) (by exact Nat.le_of_ble_eq_true rfl) (by rfl) (fun k mm res X C hR hN hr hname h => ?_)
  have X : CX k cX7_goal RX7 := X
  have hT : TH k (fun e m' => res = (.error e, m')) := TH_of C
  have htr := C.2.2.2.1
  unfold F_X7_goal at h
  exact SB_go (T := fun e m' => res = (.error e, m')) (RET := fun v m' => res = (.ok v, m')) (SB_retI X C hr dX7_goal_15 (XE_2 wI (XE_2 wR (XE_1 (L_aload_n (r := (some this)) 0 X dX7_goal_0 rfl rfl) (O_gr (c := 8) (j := 24) X rfl inW7 (by decide) fl_X7_78 rfl dX7_goal_1)) (XE_2 wI (XE_2 wI (L_bipush (v := (60)) X dX7_goal_4 (by decide)) (L_iload_n (x := which_) 1 X dX7_goal_6 rfl rfl) (O_imul X dX7_goal_7)) (L_iload_n (x := when_) 2 X dX7_goal_8 rfl rfl) (O_iadd X dX7_goal_9)) (O_ai X dX7_goal_10)) (L_sipush (v := (2048)) X dX7_goal_11 (by decide)) (O_irem X dX7_goal_14))) h (by rw [hR]; decide) (by rw [hR]; decide)
theorem dX7_stand_0 : decode cX7_stand 0 = .ok (.aload_n 0, 1) := by decide +kernel
theorem dX7_stand_1 : decode cX7_stand 1 = .ok (.getfield 78, 3) := by decide +kernel
theorem dX7_stand_4 : decode cX7_stand 4 = .ok (.bipush 60, 2) := by decide +kernel
theorem dX7_stand_6 : decode cX7_stand 6 = .ok (.iload_n 1, 1) := by decide +kernel
theorem dX7_stand_7 : decode cX7_stand 7 = .ok (.imul, 1) := by decide +kernel
theorem dX7_stand_8 : decode cX7_stand 8 = .ok (.iload_n 2, 1) := by decide +kernel
theorem dX7_stand_9 : decode cX7_stand 9 = .ok (.iadd, 1) := by decide +kernel
theorem dX7_stand_10 : decode cX7_stand 10 = .ok (.iaload, 1) := by decide +kernel
theorem dX7_stand_11 : decode cX7_stand 11 = .ok (.sipush 2048, 3) := by decide +kernel
theorem dX7_stand_14 : decode cX7_stand 14 = .ok (.idiv, 1) := by decide +kernel
theorem dX7_stand_15 : decode cX7_stand 15 = .ok (.ireturn, 1) := by decide +kernel
theorem lk_X7_stand : LK yX7_stand cX7_stand 3 (some .int) 2 := ⟨qW_at 1644 (by decide +kernel) rfl, qW_at 78 (by decide +kernel) rfl, by decide, by decide, by decide +kernel⟩
theorem im_X7_stand : Cond.instanceMethod yX7_stand ∈ qW := qW_at 1643 (by decide +kernel) rfl
theorem se_X7_stand : Cond.selects RX7 yX7_stand yX7_stand ∈ qW := qW_at 54 (by decide +kernel) rfl
def F_X7_stand (this : Nat) (which_ : Int32) (when_ : Int32) : QX Int32 :=
  (xb (xb (xb (xp (some this)) fun v1 => xgr 8 24 v1) fun v6 => xb (xb (xb (xp (60 : Int32)) fun v2 => xb (xp which_) fun v3 => (xp (v2 * v3))) fun v4 => xb (xp when_) fun v5 => (xp (v4 + v5))) fun v7 => xai 0 v6 v7) fun v8 => xb (xp (2048 : Int32)) fun v9 => (xdiv v8 v9))
set_option maxRecDepth 100000 in
set_option maxHeartbeats 4000000 in
theorem M_X7_stand (this : Nat) (which_ : Int32) (when_ : Int32) : MM yX7_stand cX7_stand 3 (some .int) 0 0 0 0 encI [.ref this, .int which_, .int when_] (F_X7_stand this which_ when_) := by
  refine MM_of (env0 := [(0, va_rf (some this)), (1, .int which_), (2, .int when_)]) (by decide) (by exact Nat.le_of_ble_eq_true rfl) (by rfl) (fun k mm res X C hR hN hr hname h => ?_)
  have X : CX k cX7_stand RX7 := X
  have hT : TH k (fun e m' => res = (.error e, m')) := TH_of C
  have htr := C.2.2.2.1
  unfold F_X7_stand at h
  exact SB_go (T := fun e m' => res = (.error e, m')) (RET := fun v m' => res = (.ok v, m')) (SB_retI X C hr dX7_stand_15 (XE_2 wI (XE_2 wR (XE_1 (L_aload_n (r := (some this)) 0 X dX7_stand_0 rfl rfl) (O_gr (c := 8) (j := 24) X rfl inW7 (by decide) fl_X7_78 rfl dX7_stand_1)) (XE_2 wI (XE_2 wI (L_bipush (v := (60)) X dX7_stand_4 (by decide)) (L_iload_n (x := which_) 1 X dX7_stand_6 rfl rfl) (O_imul X dX7_stand_7)) (L_iload_n (x := when_) 2 X dX7_stand_8 rfl rfl) (O_iadd X dX7_stand_9)) (O_ai X dX7_stand_10)) (L_sipush (v := (2048)) X dX7_stand_11 (by decide)) (O_idiv X dX7_stand_14))) h (by rw [hR]; decide) (by rw [hR]; decide)
theorem dX7_standsAll_0 : decode cX7_standsAll 0 = .ok (.iconst 0, 1) := by decide +kernel
theorem dX7_standsAll_1 : decode cX7_standsAll 1 = .ok (.istore_n 2, 1) := by decide +kernel
theorem dX7_standsAll_2 : decode cX7_standsAll 2 = .ok (.iload_n 2, 1) := by decide +kernel
theorem dX7_standsAll_3 : decode cX7_standsAll 3 = .ok (.bipush 60, 2) := by decide +kernel
theorem dX7_standsAll_5 : decode cX7_standsAll 5 = .ok (.if_icmp .ge 21, 3) := by decide +kernel
theorem dX7_standsAll_8 : decode cX7_standsAll 8 = .ok (.aload_n 0, 1) := by decide +kernel
theorem dX7_standsAll_9 : decode cX7_standsAll 9 = .ok (.iload_n 1, 1) := by decide +kernel
theorem dX7_standsAll_10 : decode cX7_standsAll 10 = .ok (.iload_n 2, 1) := by decide +kernel
theorem dX7_standsAll_11 : decode cX7_standsAll 11 = .ok (.aload_n 0, 1) := by decide +kernel
theorem dX7_standsAll_12 : decode cX7_standsAll 12 = .ok (.iload_n 1, 1) := by decide +kernel
theorem dX7_standsAll_13 : decode cX7_standsAll 13 = .ok (.iload_n 2, 1) := by decide +kernel
theorem dX7_standsAll_14 : decode cX7_standsAll 14 = .ok (.invokevirtual 195, 3) := by decide +kernel
theorem dX7_standsAll_17 : decode cX7_standsAll 17 = .ok (.invokevirtual 198, 3) := by decide +kernel
theorem dX7_standsAll_20 : decode cX7_standsAll 20 = .ok (.iinc 2 1, 3) := by decide +kernel
theorem dX7_standsAll_23 : decode cX7_standsAll 23 = .ok (.goto (-21), 3) := by decide +kernel
theorem dX7_standsAll_26 : decode cX7_standsAll 26 = .ok (.return_, 1) := by decide +kernel
theorem lk_X7_standsAll : LK yX7_standsAll cX7_standsAll 3 none 1 := ⟨qW_at 1540 (by decide +kernel) rfl, qW_at 78 (by decide +kernel) rfl, by decide, by decide, by decide +kernel⟩
theorem im_X7_standsAll : Cond.instanceMethod yX7_standsAll ∈ qW := qW_at 1539 (by decide +kernel) rfl
theorem se_X7_standsAll : Cond.selects RX7 yX7_standsAll yX7_standsAll ∈ qW := qW_at 40 (by decide +kernel) rfl
def F_X7_standsAll (this : Nat) (which_ : Int32) : QX Unit :=
  (xb (xp (0 : Int32)) fun k_1 =>
  (xb (xl 2000 (fun (s2 : Int32) => (xb (xp s2) fun v3 => xb (xp (60 : Int32)) fun v4 => xp (decide (v3 < v4)))) (fun (s2 : Int32) =>
  (xb (xb (xp (some this)) fun v8 => xb (xp which_) fun v9 => xb (xp s2) fun v10 => xb (xb (xp (some this)) fun v5 => xb (xp which_) fun v6 => xb (xp s2) fun v7 => xo 8 v5 fun q => F_X7_goal q v6 v7) fun v11 => xo 8 v8 fun q => F_X7_stands q v9 v10 v11) fun _ =>
  (xp (s2 + 1)))) k_1) fun s12 =>
  (xp ())))
set_option maxRecDepth 100000 in
set_option maxHeartbeats 4000000 in
theorem M_X7_standsAll (this : Nat) (which_ : Int32) : MM yX7_standsAll cX7_standsAll 3 none 1 23 0 0 encU [.ref this, .int which_] (F_X7_standsAll this which_) := by
  refine MM_of (env0 := [(0, va_rf (some this)), (1, .int which_)]) (by decide) (by exact Nat.le_of_ble_eq_true rfl) (by rfl) (fun k mm res X C hR hN hr hname h => ?_)
  have X : CX k cX7_standsAll RX7 := X
  have hT : TH k (fun e m' => res = (.error e, m')) := TH_of C
  have htr := C.2.2.2.1
  unfold F_X7_standsAll at h
  exact SB_go (T := fun e m' => res = (.error e, m')) (RET := fun v m' => res = (.ok v, m')) (SB_let (L_iconst (v := 0) X dX7_standsAll_0 (by decide)) (S_istore_n (ev := fun k_1 => [(2, .int k_1), (0, va_rf (some this)), (1, .int which_)]) X dX7_standsAll_1 rfl (by rw [hN]; decide) (fun _ => rfl)) fun k_1 =>
  (SB_seq (ST_loop (σ := Int32) (upd := (fun (s : Int32) => [(2, .int s), (0, va_rf (some this)), (1, .int which_)])) (s0 := k_1) (n := 2000) (fun mm a b h => GG_sub [0, 1, 2] rfl h)
  (fun s2 => (CE_2 wI (L_iload_n (x := s2) 0 X dX7_standsAll_2 rfl rfl) (L_bipush (v := (60)) X dX7_standsAll_3 (by decide)) (C_lt_F X dX7_standsAll_5 (by decide))))
  (fun s2 => (ST_post (ST_do (XE_4 (pB := pU) wR wI wI (L_aload_n (r := (some this)) 1 X dX7_standsAll_8 rfl rfl) (L_iload_n (x := which_) 2 X dX7_standsAll_9 rfl rfl) (L_iload_n (x := s2) 0 X dX7_standsAll_10 rfl rfl) (XE_3 (pB := pI) wR wI (L_aload_n (r := (some this)) 1 X dX7_standsAll_11 rfl rfl) (L_iload_n (x := which_) 2 X dX7_standsAll_12 rfl rfl) (L_iload_n (x := s2) 0 X dX7_standsAll_13 rfl rfl) (fun v0 v1 v2 st mm a b hd hc hs h => g_callVo (st := st) (cI := 8) X hT htr rfl (fun q => M_X7_goal q v1 v2) lk_X7_goal im_X7_goal se_X7_goal ml_X7_195 rfl (by rw [hR]; exact ⟨Nat.le_of_ble_eq_true rfl, Nat.le_of_ble_eq_true rfl⟩) (Nat.le_trans hd (by decide)) ⟨hc, hs⟩ dX7_standsAll_14 h)) (fun v0 v1 v2 v3 st mm a b hd hc hs h => g_callVo (st := st) (cI := 8) X hT htr rfl (fun q => M_X7_stands q v1 v2 v3) lk_X7_stands im_X7_stands se_X7_stands ml_X7_198 rfl (by rw [hR]; exact ⟨Nat.le_of_ble_eq_true rfl, Nat.le_of_ble_eq_true rfl⟩) (Nat.le_trans hd (by decide)) ⟨hc, hs⟩ dX7_standsAll_17 h))
  (ST_pre (env' := [(2, .int (s2 + 1)), (0, va_rf (some this)), (1, .int which_)]) (S_iinc 0 X dX7_standsAll_20 rfl rfl (by rw [hN]; decide) rfl)
  (ST_done (upd := (fun (s : Int32) => [(2, .int s), (0, va_rf (some this)), (1, .int which_)])) (s := (s2 + 1)) [0, 1, 2] rfl))) fun _ mm a b h => S_goto X dX7_standsAll_23 (by decide) [] mm a b h))) fun s12 =>
  (SB_retU X C hr dX7_standsAll_26))) h (by rw [hR]; decide) (by rw [hR]; decide)
theorem dX7_isTime_0 : decode cX7_isTime 0 = .ok (.iload_n 0, 1) := by decide +kernel
theorem dX7_isTime_1 : decode cX7_isTime 1 = .ok (.invokestatic 157, 3) := by decide +kernel
theorem dX7_isTime_4 : decode cX7_isTime 4 = .ok (.ifCond .eq 27, 3) := by decide +kernel
theorem dX7_isTime_7 : decode cX7_isTime 7 = .ok (.iload_n 1, 1) := by decide +kernel
theorem dX7_isTime_8 : decode cX7_isTime 8 = .ok (.iconst 0, 1) := by decide +kernel
theorem dX7_isTime_9 : decode cX7_isTime 9 = .ok (.bipush 23, 2) := by decide +kernel
theorem dX7_isTime_11 : decode cX7_isTime 11 = .ok (.invokestatic 139, 3) := by decide +kernel
theorem dX7_isTime_14 : decode cX7_isTime 14 = .ok (.ifCond .eq 17, 3) := by decide +kernel
theorem dX7_isTime_17 : decode cX7_isTime 17 = .ok (.iload_n 2, 1) := by decide +kernel
theorem dX7_isTime_18 : decode cX7_isTime 18 = .ok (.iconst 1, 1) := by decide +kernel
theorem dX7_isTime_19 : decode cX7_isTime 19 = .ok (.bipush 23, 2) := by decide +kernel
theorem dX7_isTime_21 : decode cX7_isTime 21 = .ok (.invokestatic 139, 3) := by decide +kernel
theorem dX7_isTime_24 : decode cX7_isTime 24 = .ok (.ifCond .eq 7, 3) := by decide +kernel
theorem dX7_isTime_27 : decode cX7_isTime 27 = .ok (.iconst 1, 1) := by decide +kernel
theorem dX7_isTime_28 : decode cX7_isTime 28 = .ok (.goto 4, 3) := by decide +kernel
theorem dX7_isTime_31 : decode cX7_isTime 31 = .ok (.iconst 0, 1) := by decide +kernel
theorem dX7_isTime_32 : decode cX7_isTime 32 = .ok (.ireturn, 1) := by decide +kernel
theorem lk_X7_isTime : LK yX7_isTime cX7_isTime 3 (some .boolean) 3 := ⟨qW_at 1494 (by decide +kernel) rfl, qW_at 78 (by decide +kernel) rfl, by decide, by decide, by decide +kernel⟩
theorem st_X7_isTime : Cond.static yX7_isTime ∈ qW := qW_at 1493 (by decide +kernel) rfl
def F_X7_isTime (when_ : Int32) (clock_ : Int32) (hours_ : Int32) : QX Int32 :=
  (xb (xb (xb (xb (xb (xb (xp when_) fun v1 => F_X7_isDay v1) fun v2 => xp (decide (¬ v2 = 0))) fun v7 => if v7 then (xb (xb (xp clock_) fun v3 => xb (xp (0 : Int32)) fun v4 => xb (xp (23 : Int32)) fun v5 => F_X7_in v3 v4 v5) fun v6 => xp (decide (¬ v6 = 0))) else xp false) fun v12 => if v12 then (xb (xb (xp hours_) fun v8 => xb (xp (1 : Int32)) fun v9 => xb (xp (23 : Int32)) fun v10 => F_X7_in v8 v9 v10) fun v11 => xp (decide (¬ v11 = 0))) else xp false) fun v13 => xp (b2i v13)) xz)
set_option maxRecDepth 100000 in
set_option maxHeartbeats 4000000 in
theorem M_X7_isTime (when_ : Int32) (clock_ : Int32) (hours_ : Int32) : MM yX7_isTime cX7_isTime 3 (some .boolean) 2 42 0 0 encI [.int when_, .int clock_, .int hours_] (F_X7_isTime when_ clock_ hours_) := by
  refine MM_of (env0 := [(0, .int when_), (1, .int clock_), (2, .int hours_)]) (by decide) (by exact Nat.le_of_ble_eq_true rfl) (by rfl) (fun k mm res X C hR hN hr hname h => ?_)
  have X : CX k cX7_isTime RX7 := X
  have hT : TH k (fun e m' => res = (.error e, m')) := TH_of C
  have htr := C.2.2.2.1
  unfold F_X7_isTime at h
  exact SB_go (T := fun e m' => res = (.error e, m')) (RET := fun v m' => res = (.ok v, m')) (SB_retZ X C hr dX7_isTime_32 (XE_b2i (CE_and (CE_and (CE_1 (XE_1 (pB := pI)  (L_iload_n (x := when_) 0 X dX7_isTime_0 rfl rfl) (fun v0 st mm a b hd hc hs h => g_callS (st := st) X hT htr (M_X7_isDay v0) lk_X7_isDay st_X7_isDay ml_X7_157 rfl (by rw [hR]; exact ⟨Nat.le_of_ble_eq_true rfl, Nat.le_of_ble_eq_true rfl⟩) (Nat.le_trans hd (by decide)) ⟨hc, hs⟩ dX7_isTime_1 h)) (Z_ne_F X dX7_isTime_4 (by decide))) (CE_1 (XE_3 (pB := pI) wI wI (L_iload_n (x := clock_) 1 X dX7_isTime_7 rfl rfl) (L_iconst (v := 0) X dX7_isTime_8 (by decide)) (L_bipush (v := (23)) X dX7_isTime_9 (by decide)) (fun v0 v1 v2 st mm a b hd hc hs h => g_callS (st := st) X hT htr (M_X7_in v0 v1 v2) lk_X7_in st_X7_in ml_X7_139 rfl (by rw [hR]; exact ⟨Nat.le_of_ble_eq_true rfl, Nat.le_of_ble_eq_true rfl⟩) (Nat.le_trans hd (by decide)) ⟨hc, hs⟩ dX7_isTime_11 h)) (Z_ne_F X dX7_isTime_14 (by decide)))) (CE_1 (XE_3 (pB := pI) wI wI (L_iload_n (x := hours_) 2 X dX7_isTime_17 rfl rfl) (L_iconst (v := 1) X dX7_isTime_18 (by decide)) (L_bipush (v := (23)) X dX7_isTime_19 (by decide)) (fun v0 v1 v2 st mm a b hd hc hs h => g_callS (st := st) X hT htr (M_X7_in v0 v1 v2) lk_X7_in st_X7_in ml_X7_139 rfl (by rw [hR]; exact ⟨Nat.le_of_ble_eq_true rfl, Nat.le_of_ble_eq_true rfl⟩) (Nat.le_trans hd (by decide)) ⟨hc, hs⟩ dX7_isTime_21 h)) (Z_ne_F X dX7_isTime_24 (by decide)))) (S_b1 X dX7_isTime_27 dX7_isTime_28 (by decide)) (S_b0 X dX7_isTime_31))) h (by rw [hR]; decide) (by rw [hR]; decide)
theorem dX7_make_0 : decode cX7_make 0 = .ok (.iload_n 1, 1) := by decide +kernel
theorem dX7_make_1 : decode cX7_make 1 = .ok (.invokestatic 202, 3) := by decide +kernel
theorem dX7_make_4 : decode cX7_make 4 = .ok (.ifCond .eq 14, 3) := by decide +kernel
theorem dX7_make_7 : decode cX7_make 7 = .ok (.iload_n 2, 1) := by decide +kernel
theorem dX7_make_8 : decode cX7_make 8 = .ok (.invokestatic 149, 3) := by decide +kernel
theorem dX7_make_11 : decode cX7_make 11 = .ok (.ifCond .eq 7, 3) := by decide +kernel
theorem dX7_make_14 : decode cX7_make 14 = .ok (.iconst 1, 1) := by decide +kernel
theorem dX7_make_15 : decode cX7_make 15 = .ok (.goto 4, 3) := by decide +kernel
theorem dX7_make_18 : decode cX7_make 18 = .ok (.iconst 0, 1) := by decide +kernel
theorem dX7_make_19 : decode cX7_make 19 = .ok (.istore 6, 2) := by decide +kernel
theorem dX7_make_21 : decode cX7_make 21 = .ok (.aload_n 0, 1) := by decide +kernel
theorem dX7_make_22 : decode cX7_make 22 = .ok (.iload 6, 2) := by decide +kernel
theorem dX7_make_24 : decode cX7_make 24 = .ok (.iload_n 3, 1) := by decide +kernel
theorem dX7_make_25 : decode cX7_make 25 = .ok (.iload 4, 2) := by decide +kernel
theorem dX7_make_27 : decode cX7_make 27 = .ok (.iload 5, 2) := by decide +kernel
theorem dX7_make_29 : decode cX7_make 29 = .ok (.invokestatic 205, 3) := by decide +kernel
theorem dX7_make_32 : decode cX7_make 32 = .ok (.aload_n 0, 1) := by decide +kernel
theorem dX7_make_33 : decode cX7_make 33 = .ok (.getfield 143, 3) := by decide +kernel
theorem dX7_make_36 : decode cX7_make 36 = .ok (.bipush 8, 2) := by decide +kernel
theorem dX7_make_38 : decode cX7_make 38 = .ok (.if_icmp .ge 7, 3) := by decide +kernel
theorem dX7_make_41 : decode cX7_make 41 = .ok (.iconst 1, 1) := by decide +kernel
theorem dX7_make_42 : decode cX7_make 42 = .ok (.goto 4, 3) := by decide +kernel
theorem dX7_make_45 : decode cX7_make 45 = .ok (.iconst 0, 1) := by decide +kernel
theorem dX7_make_46 : decode cX7_make 46 = .ok (.invokevirtual 153, 3) := by decide +kernel
theorem dX7_make_49 : decode cX7_make 49 = .ok (.ifCond .ne 5, 3) := by decide +kernel
theorem dX7_make_52 : decode cX7_make 52 = .ok (.iconst 0, 1) := by decide +kernel
theorem dX7_make_53 : decode cX7_make 53 = .ok (.ireturn, 1) := by decide +kernel
theorem dX7_make_54 : decode cX7_make 54 = .ok (.aload_n 0, 1) := by decide +kernel
theorem dX7_make_55 : decode cX7_make 55 = .ok (.getfield 19, 3) := by decide +kernel
theorem dX7_make_58 : decode cX7_make 58 = .ok (.aload_n 0, 1) := by decide +kernel
theorem dX7_make_59 : decode cX7_make 59 = .ok (.getfield 143, 3) := by decide +kernel
theorem dX7_make_62 : decode cX7_make 62 = .ok (.iload_n 1, 1) := by decide +kernel
theorem dX7_make_63 : decode cX7_make 63 = .ok (.iastore, 1) := by decide +kernel
theorem dX7_make_64 : decode cX7_make 64 = .ok (.aload_n 0, 1) := by decide +kernel
theorem dX7_make_65 : decode cX7_make 65 = .ok (.getfield 35, 3) := by decide +kernel
theorem dX7_make_68 : decode cX7_make 68 = .ok (.aload_n 0, 1) := by decide +kernel
theorem dX7_make_69 : decode cX7_make 69 = .ok (.getfield 184, 3) := by decide +kernel
theorem dX7_make_72 : decode cX7_make 72 = .ok (.iload_n 2, 1) := by decide +kernel
theorem dX7_make_73 : decode cX7_make 73 = .ok (.iastore, 1) := by decide +kernel
theorem dX7_make_74 : decode cX7_make 74 = .ok (.aload_n 0, 1) := by decide +kernel
theorem dX7_make_75 : decode cX7_make 75 = .ok (.getfield 38, 3) := by decide +kernel
theorem dX7_make_78 : decode cX7_make 78 = .ok (.aload_n 0, 1) := by decide +kernel
theorem dX7_make_79 : decode cX7_make 79 = .ok (.getfield 184, 3) := by decide +kernel
theorem dX7_make_82 : decode cX7_make 82 = .ok (.iload_n 3, 1) := by decide +kernel
theorem dX7_make_83 : decode cX7_make 83 = .ok (.iastore, 1) := by decide +kernel
theorem dX7_make_84 : decode cX7_make 84 = .ok (.aload_n 0, 1) := by decide +kernel
theorem dX7_make_85 : decode cX7_make 85 = .ok (.getfield 41, 3) := by decide +kernel
theorem dX7_make_88 : decode cX7_make 88 = .ok (.aload_n 0, 1) := by decide +kernel
theorem dX7_make_89 : decode cX7_make 89 = .ok (.getfield 184, 3) := by decide +kernel
theorem dX7_make_92 : decode cX7_make 92 = .ok (.iload 4, 2) := by decide +kernel
theorem dX7_make_94 : decode cX7_make 94 = .ok (.iastore, 1) := by decide +kernel
theorem dX7_make_95 : decode cX7_make 95 = .ok (.aload_n 0, 1) := by decide +kernel
theorem dX7_make_96 : decode cX7_make 96 = .ok (.getfield 44, 3) := by decide +kernel
theorem dX7_make_99 : decode cX7_make 99 = .ok (.aload_n 0, 1) := by decide +kernel
theorem dX7_make_100 : decode cX7_make 100 = .ok (.getfield 184, 3) := by decide +kernel
theorem dX7_make_103 : decode cX7_make 103 = .ok (.iload 5, 2) := by decide +kernel
theorem dX7_make_105 : decode cX7_make 105 = .ok (.iastore, 1) := by decide +kernel
theorem dX7_make_106 : decode cX7_make 106 = .ok (.aload_n 0, 1) := by decide +kernel
theorem dX7_make_107 : decode cX7_make 107 = .ok (.getfield 47, 3) := by decide +kernel
theorem dX7_make_110 : decode cX7_make 110 = .ok (.aload_n 0, 1) := by decide +kernel
theorem dX7_make_111 : decode cX7_make 111 = .ok (.getfield 184, 3) := by decide +kernel
theorem dX7_make_114 : decode cX7_make 114 = .ok (.iconst 1, 1) := by decide +kernel
theorem dX7_make_115 : decode cX7_make 115 = .ok (.iastore, 1) := by decide +kernel
theorem dX7_make_116 : decode cX7_make 116 = .ok (.aload_n 0, 1) := by decide +kernel
theorem dX7_make_117 : decode cX7_make 117 = .ok (.getfield 50, 3) := by decide +kernel
theorem dX7_make_120 : decode cX7_make 120 = .ok (.aload_n 0, 1) := by decide +kernel
theorem dX7_make_121 : decode cX7_make 121 = .ok (.getfield 184, 3) := by decide +kernel
theorem dX7_make_124 : decode cX7_make 124 = .ok (.bipush 127, 2) := by decide +kernel
theorem dX7_make_126 : decode cX7_make 126 = .ok (.iastore, 1) := by decide +kernel
theorem dX7_make_127 : decode cX7_make 127 = .ok (.aload_n 0, 1) := by decide +kernel
theorem dX7_make_128 : decode cX7_make 128 = .ok (.getfield 53, 3) := by decide +kernel
theorem dX7_make_131 : decode cX7_make 131 = .ok (.aload_n 0, 1) := by decide +kernel
theorem dX7_make_132 : decode cX7_make 132 = .ok (.getfield 184, 3) := by decide +kernel
theorem dX7_make_135 : decode cX7_make 135 = .ok (.iconst 1, 1) := by decide +kernel
theorem dX7_make_136 : decode cX7_make 136 = .ok (.iastore, 1) := by decide +kernel
theorem dX7_make_137 : decode cX7_make 137 = .ok (.aload_n 0, 1) := by decide +kernel
theorem dX7_make_138 : decode cX7_make 138 = .ok (.dup, 1) := by decide +kernel
theorem dX7_make_139 : decode cX7_make 139 = .ok (.getfield 143, 3) := by decide +kernel
theorem dX7_make_142 : decode cX7_make 142 = .ok (.iconst 1, 1) := by decide +kernel
theorem dX7_make_143 : decode cX7_make 143 = .ok (.iadd, 1) := by decide +kernel
theorem dX7_make_144 : decode cX7_make 144 = .ok (.putfield 143, 3) := by decide +kernel
theorem dX7_make_147 : decode cX7_make 147 = .ok (.aload_n 0, 1) := by decide +kernel
theorem dX7_make_148 : decode cX7_make 148 = .ok (.dup, 1) := by decide +kernel
theorem dX7_make_149 : decode cX7_make 149 = .ok (.getfield 184, 3) := by decide +kernel
theorem dX7_make_152 : decode cX7_make 152 = .ok (.iconst 1, 1) := by decide +kernel
theorem dX7_make_153 : decode cX7_make 153 = .ok (.iadd, 1) := by decide +kernel
theorem dX7_make_154 : decode cX7_make 154 = .ok (.putfield 184, 3) := by decide +kernel
theorem dX7_make_157 : decode cX7_make 157 = .ok (.aload_n 0, 1) := by decide +kernel
theorem dX7_make_158 : decode cX7_make 158 = .ok (.aload_n 0, 1) := by decide +kernel
theorem dX7_make_159 : decode cX7_make 159 = .ok (.getfield 143, 3) := by decide +kernel
theorem dX7_make_162 : decode cX7_make 162 = .ok (.iconst 1, 1) := by decide +kernel
theorem dX7_make_163 : decode cX7_make 163 = .ok (.isub, 1) := by decide +kernel
theorem dX7_make_164 : decode cX7_make 164 = .ok (.aload_n 0, 1) := by decide +kernel
theorem dX7_make_165 : decode cX7_make 165 = .ok (.getfield 184, 3) := by decide +kernel
theorem dX7_make_168 : decode cX7_make 168 = .ok (.iconst 1, 1) := by decide +kernel
theorem dX7_make_169 : decode cX7_make 169 = .ok (.isub, 1) := by decide +kernel
theorem dX7_make_170 : decode cX7_make 170 = .ok (.invokevirtual 208, 3) := by decide +kernel
theorem dX7_make_173 : decode cX7_make 173 = .ok (.istore 7, 2) := by decide +kernel
theorem dX7_make_175 : decode cX7_make 175 = .ok (.aload_n 0, 1) := by decide +kernel
theorem dX7_make_176 : decode cX7_make 176 = .ok (.getfield 143, 3) := by decide +kernel
theorem dX7_make_179 : decode cX7_make 179 = .ok (.iconst 1, 1) := by decide +kernel
theorem dX7_make_180 : decode cX7_make 180 = .ok (.isub, 1) := by decide +kernel
theorem dX7_make_181 : decode cX7_make 181 = .ok (.ireturn, 1) := by decide +kernel
theorem lk_X7_make : LK yX7_make cX7_make 8 (some .int) 5 := ⟨qW_at 1488 (by decide +kernel) rfl, qW_at 78 (by decide +kernel) rfl, by decide, by decide, by decide +kernel⟩
theorem im_X7_make : Cond.instanceMethod yX7_make ∈ qW := qW_at 1486 (by decide +kernel) rfl
theorem se_X7_make : Cond.selects RX7 yX7_make yX7_make ∈ qW := qW_at 1487 (by decide +kernel) rfl
def F_X7_make (this : Nat) (person_ : Int32) (its_ : Int32) (when_ : Int32) (clock_ : Int32) (hours_ : Int32) : QX Int32 :=
  (xb (xb (xb (xb (xb (xp person_) fun v1 => F_X7_isPerson v1) fun v2 => xp (decide (¬ v2 = 0))) fun v5 => if v5 then (xb (xb (xp its_) fun v3 => F_X7_isZone v3) fun v4 => xp (decide (¬ v4 = 0))) else xp false) fun v6 => xp (b2i v6)) fun is_7 =>
  (xb (xb (xb (xb (xp (some this)) fun v15 => xb (xp is_7) fun v16 => xb (xb (xp when_) fun v8 => xb (xp clock_) fun v9 => xb (xp hours_) fun v10 => F_X7_isTime v8 v9 v10) fun v17 => xb (xb (xb (xb (xp (some this)) fun v11 => xgi 8 3 v11) fun v12 => xb (xp (8 : Int32)) fun v13 => xp (decide (v12 < v13))) fun v14 => xp (b2i v14)) fun v18 => xo 8 v15 fun q => F_X7_goes q v16 v17 v18) fun v19 => xp (decide (¬ v19 = 0))) fun v20 => xp (!v20)) fun v82 => if v82 then (xp (0 : Int32)) else
  (xb (xb (xb (xp (some this)) fun v21 => xgr 8 4 v21) fun v23 => xb (xb (xp (some this)) fun v22 => xgi 8 3 v22) fun v24 => xb (xp person_) fun v25 => xsai v23 v24 v25) fun _ =>
  (xb (xb (xb (xp (some this)) fun v26 => xgr 8 10 v26) fun v28 => xb (xb (xp (some this)) fun v27 => xgi 8 7 v27) fun v29 => xb (xp its_) fun v30 => xsai v28 v29 v30) fun _ =>
  (xb (xb (xb (xp (some this)) fun v31 => xgr 8 11 v31) fun v33 => xb (xb (xp (some this)) fun v32 => xgi 8 7 v32) fun v34 => xb (xp when_) fun v35 => xsai v33 v34 v35) fun _ =>
  (xb (xb (xb (xp (some this)) fun v36 => xgr 8 12 v36) fun v38 => xb (xb (xp (some this)) fun v37 => xgi 8 7 v37) fun v39 => xb (xp clock_) fun v40 => xsai v38 v39 v40) fun _ =>
  (xb (xb (xb (xp (some this)) fun v41 => xgr 8 13 v41) fun v43 => xb (xb (xp (some this)) fun v42 => xgi 8 7 v42) fun v44 => xb (xp hours_) fun v45 => xsai v43 v44 v45) fun _ =>
  (xb (xb (xb (xp (some this)) fun v46 => xgr 8 14 v46) fun v48 => xb (xb (xp (some this)) fun v47 => xgi 8 7 v47) fun v49 => xb (xp (1 : Int32)) fun v50 => xsai v48 v49 v50) fun _ =>
  (xb (xb (xb (xp (some this)) fun v51 => xgr 8 15 v51) fun v53 => xb (xb (xp (some this)) fun v52 => xgi 8 7 v52) fun v54 => xb (xp (127 : Int32)) fun v55 => xsai v53 v54 v55) fun _ =>
  (xb (xb (xb (xp (some this)) fun v56 => xgr 8 16 v56) fun v58 => xb (xb (xp (some this)) fun v57 => xgi 8 7 v57) fun v59 => xb (xp (1 : Int32)) fun v60 => xsai v58 v59 v60) fun _ =>
  (xb (xb (xp (some this)) fun v61 => xb (xgi 8 3 v61) fun v62 => xb (xp (1 : Int32)) fun v63 => xb (xp (v62 + v63)) fun v64 => xsi 8 3 v61 v64) fun _ =>
  (xb (xb (xp (some this)) fun v65 => xb (xgi 8 7 v65) fun v66 => xb (xp (1 : Int32)) fun v67 => xb (xp (v66 + v67)) fun v68 => xsi 8 7 v65 v68) fun _ =>
  (xb (xb (xp (some this)) fun v75 => xb (xb (xb (xp (some this)) fun v69 => xgi 8 3 v69) fun v70 => xb (xp (1 : Int32)) fun v71 => (xp (v70 - v71))) fun v76 => xb (xb (xb (xp (some this)) fun v72 => xgi 8 7 v72) fun v73 => xb (xp (1 : Int32)) fun v74 => (xp (v73 - v74))) fun v77 => xo 8 v75 fun q => F_X7_holds q v76 v77) fun seq_78 =>
  (xb (xb (xp (some this)) fun v79 => xgi 8 3 v79) fun v80 => xb (xp (1 : Int32)) fun v81 => (xp (v80 - v81))))))))))))))))
set_option maxRecDepth 100000 in
set_option maxHeartbeats 4000000 in
theorem M_X7_make (this : Nat) (person_ : Int32) (its_ : Int32) (when_ : Int32) (clock_ : Int32) (hours_ : Int32) : MM yX7_make cX7_make 8 (some .int) 4 91 0 0 encI [.ref this, .int person_, .int its_, .int when_, .int clock_, .int hours_] (F_X7_make this person_ its_ when_ clock_ hours_) := by
  refine MM_of (env0 := [(0, va_rf (some this)), (1, .int person_), (2, .int its_), (3, .int when_), (4, .int clock_), (5, .int hours_)]) (by decide) (by exact Nat.le_of_ble_eq_true rfl) (by rfl) (fun k mm res X C hR hN hr hname h => ?_)
  have X : CX k cX7_make RX7 := X
  have hT : TH k (fun e m' => res = (.error e, m')) := TH_of C
  have htr := C.2.2.2.1
  unfold F_X7_make at h
  exact SB_go (T := fun e m' => res = (.error e, m')) (RET := fun v m' => res = (.ok v, m')) (SB_let (XE_b2i (CE_and (CE_1 (XE_1 (pB := pI)  (L_iload_n (x := person_) 1 X dX7_make_0 rfl rfl) (fun v0 st mm a b hd hc hs h => g_callS (st := st) X hT htr (M_X7_isPerson v0) lk_X7_isPerson st_X7_isPerson ml_X7_202 rfl (by rw [hR]; exact ⟨Nat.le_of_ble_eq_true rfl, Nat.le_of_ble_eq_true rfl⟩) (Nat.le_trans hd (by decide)) ⟨hc, hs⟩ dX7_make_1 h)) (Z_ne_F X dX7_make_4 (by decide))) (CE_1 (XE_1 (pB := pI)  (L_iload_n (x := its_) 2 X dX7_make_7 rfl rfl) (fun v0 st mm a b hd hc hs h => g_callS (st := st) X hT htr (M_X7_isZone v0) lk_X7_isZone st_X7_isZone ml_X7_149 rfl (by rw [hR]; exact ⟨Nat.le_of_ble_eq_true rfl, Nat.le_of_ble_eq_true rfl⟩) (Nat.le_trans hd (by decide)) ⟨hc, hs⟩ dX7_make_8 h)) (Z_ne_F X dX7_make_11 (by decide)))) (S_b1 X dX7_make_14 dX7_make_15 (by decide)) (S_b0 X dX7_make_18)) (S_istore (ev := fun is_7 => [(6, .int is_7), (0, va_rf (some this)), (1, .int person_), (2, .int its_), (3, .int when_), (4, .int clock_), (5, .int hours_)]) X dX7_make_19 (by rw [hN]; decide) (fun _ => rfl)) fun is_7 =>
  (SB_if (CE_not (CE_1 (XE_4 (pB := pI) wR wI wI (L_aload_n (r := (some this)) 1 X dX7_make_21 rfl rfl) (L_iload (x := is_7) 0 X dX7_make_22 rfl) (XE_3 (pB := pI) wI wI (L_iload_n (x := when_) 4 X dX7_make_24 rfl rfl) (L_iload (x := clock_) 5 X dX7_make_25 rfl) (L_iload (x := hours_) 6 X dX7_make_27 rfl) (fun v0 v1 v2 st mm a b hd hc hs h => g_callS (st := st) X hT htr (M_X7_isTime v0 v1 v2) lk_X7_isTime st_X7_isTime ml_X7_205 rfl (by rw [hR]; exact ⟨Nat.le_of_ble_eq_true rfl, Nat.le_of_ble_eq_true rfl⟩) (Nat.le_trans hd (by decide)) ⟨hc, hs⟩ dX7_make_29 h)) (XE_b2i (CE_2 wI (XE_1 (L_aload_n (r := (some this)) 1 X dX7_make_32 rfl rfl) (O_gi (c := 8) (j := 3) X rfl inW7 (by decide) fl_X7_143 rfl dX7_make_33)) (L_bipush (v := (8)) X dX7_make_36 (by decide)) (C_lt_F X dX7_make_38 (by decide))) (S_b1 X dX7_make_41 dX7_make_42 (by decide)) (S_b0 X dX7_make_45)) (fun v0 v1 v2 v3 st mm a b hd hc hs h => g_callVo (st := st) (cI := 8) X hT htr rfl (fun q => M_X7_goes q v1 v2 v3) lk_X7_goes im_X7_goes se_X7_goes ml_X7_153 rfl (by rw [hR]; exact ⟨Nat.le_of_ble_eq_true rfl, Nat.le_of_ble_eq_true rfl⟩) (Nat.le_trans hd (by decide)) ⟨hc, hs⟩ dX7_make_46 h)) (Z_ne_T X dX7_make_49 (by decide))))
  (SB_retI X C hr dX7_make_53 (L_iconst (v := 0) X dX7_make_52 (by decide)))
  (SB_do (XE_3 wR wI (XE_1 (L_aload_n (r := (some this)) 1 X dX7_make_54 rfl rfl) (O_gr (c := 8) (j := 4) X rfl inW7 (by decide) fl_X7_19 rfl dX7_make_55)) (XE_1 (L_aload_n (r := (some this)) 1 X dX7_make_58 rfl rfl) (O_gi (c := 8) (j := 3) X rfl inW7 (by decide) fl_X7_143 rfl dX7_make_59)) (L_iload_n (x := person_) 2 X dX7_make_62 rfl rfl) (O_sai X dX7_make_63))
  (SB_do (XE_3 wR wI (XE_1 (L_aload_n (r := (some this)) 1 X dX7_make_64 rfl rfl) (O_gr (c := 8) (j := 10) X rfl inW7 (by decide) fl_X7_35 rfl dX7_make_65)) (XE_1 (L_aload_n (r := (some this)) 1 X dX7_make_68 rfl rfl) (O_gi (c := 8) (j := 7) X rfl inW7 (by decide) fl_X7_184 rfl dX7_make_69)) (L_iload_n (x := its_) 3 X dX7_make_72 rfl rfl) (O_sai X dX7_make_73))
  (SB_do (XE_3 wR wI (XE_1 (L_aload_n (r := (some this)) 1 X dX7_make_74 rfl rfl) (O_gr (c := 8) (j := 11) X rfl inW7 (by decide) fl_X7_38 rfl dX7_make_75)) (XE_1 (L_aload_n (r := (some this)) 1 X dX7_make_78 rfl rfl) (O_gi (c := 8) (j := 7) X rfl inW7 (by decide) fl_X7_184 rfl dX7_make_79)) (L_iload_n (x := when_) 4 X dX7_make_82 rfl rfl) (O_sai X dX7_make_83))
  (SB_do (XE_3 wR wI (XE_1 (L_aload_n (r := (some this)) 1 X dX7_make_84 rfl rfl) (O_gr (c := 8) (j := 12) X rfl inW7 (by decide) fl_X7_41 rfl dX7_make_85)) (XE_1 (L_aload_n (r := (some this)) 1 X dX7_make_88 rfl rfl) (O_gi (c := 8) (j := 7) X rfl inW7 (by decide) fl_X7_184 rfl dX7_make_89)) (L_iload (x := clock_) 5 X dX7_make_92 rfl) (O_sai X dX7_make_94))
  (SB_do (XE_3 wR wI (XE_1 (L_aload_n (r := (some this)) 1 X dX7_make_95 rfl rfl) (O_gr (c := 8) (j := 13) X rfl inW7 (by decide) fl_X7_44 rfl dX7_make_96)) (XE_1 (L_aload_n (r := (some this)) 1 X dX7_make_99 rfl rfl) (O_gi (c := 8) (j := 7) X rfl inW7 (by decide) fl_X7_184 rfl dX7_make_100)) (L_iload (x := hours_) 6 X dX7_make_103 rfl) (O_sai X dX7_make_105))
  (SB_do (XE_3 wR wI (XE_1 (L_aload_n (r := (some this)) 1 X dX7_make_106 rfl rfl) (O_gr (c := 8) (j := 14) X rfl inW7 (by decide) fl_X7_47 rfl dX7_make_107)) (XE_1 (L_aload_n (r := (some this)) 1 X dX7_make_110 rfl rfl) (O_gi (c := 8) (j := 7) X rfl inW7 (by decide) fl_X7_184 rfl dX7_make_111)) (L_iconst (v := 1) X dX7_make_114 (by decide)) (O_sai X dX7_make_115))
  (SB_do (XE_3 wR wI (XE_1 (L_aload_n (r := (some this)) 1 X dX7_make_116 rfl rfl) (O_gr (c := 8) (j := 15) X rfl inW7 (by decide) fl_X7_50 rfl dX7_make_117)) (XE_1 (L_aload_n (r := (some this)) 1 X dX7_make_120 rfl rfl) (O_gi (c := 8) (j := 7) X rfl inW7 (by decide) fl_X7_184 rfl dX7_make_121)) (L_bipush (v := (127)) X dX7_make_124 (by decide)) (O_sai X dX7_make_126))
  (SB_do (XE_3 wR wI (XE_1 (L_aload_n (r := (some this)) 1 X dX7_make_127 rfl rfl) (O_gr (c := 8) (j := 16) X rfl inW7 (by decide) fl_X7_53 rfl dX7_make_128)) (XE_1 (L_aload_n (r := (some this)) 1 X dX7_make_131 rfl rfl) (O_gi (c := 8) (j := 7) X rfl inW7 (by decide) fl_X7_184 rfl dX7_make_132)) (L_iconst (v := 1) X dX7_make_135 (by decide)) (O_sai X dX7_make_136))
  (SB_do (XE_dup wI (L_aload_n (r := (some this)) 1 X dX7_make_137 rfl rfl) (S_dup X dX7_make_138) (O_gi (c := 8) (j := 3) X rfl inW7 (by decide) fl_X7_143 rfl dX7_make_139) (L_iconst (v := 1) X dX7_make_142 (by decide)) (O_iadd X dX7_make_143) (O_si (c := 8) (j := 3) tyX7 X rfl inW7 tyX7_ok nmX7 (by decide) fl_X7_143 (Or.inl rfl) rfl (by decide +kernel) dX7_make_144))
  (SB_do (XE_dup wI (L_aload_n (r := (some this)) 1 X dX7_make_147 rfl rfl) (S_dup X dX7_make_148) (O_gi (c := 8) (j := 7) X rfl inW7 (by decide) fl_X7_184 rfl dX7_make_149) (L_iconst (v := 1) X dX7_make_152 (by decide)) (O_iadd X dX7_make_153) (O_si (c := 8) (j := 7) tyX7 X rfl inW7 tyX7_ok nmX7 (by decide) fl_X7_184 (Or.inl rfl) rfl (by decide +kernel) dX7_make_154))
  (SB_let (XE_3 (pB := pI) wR wI (L_aload_n (r := (some this)) 1 X dX7_make_157 rfl rfl) (XE_2 wI (XE_1 (L_aload_n (r := (some this)) 1 X dX7_make_158 rfl rfl) (O_gi (c := 8) (j := 3) X rfl inW7 (by decide) fl_X7_143 rfl dX7_make_159)) (L_iconst (v := 1) X dX7_make_162 (by decide)) (O_isub X dX7_make_163)) (XE_2 wI (XE_1 (L_aload_n (r := (some this)) 1 X dX7_make_164 rfl rfl) (O_gi (c := 8) (j := 7) X rfl inW7 (by decide) fl_X7_184 rfl dX7_make_165)) (L_iconst (v := 1) X dX7_make_168 (by decide)) (O_isub X dX7_make_169)) (fun v0 v1 v2 st mm a b hd hc hs h => g_callVo (st := st) (cI := 8) X hT htr rfl (fun q => M_X7_holds q v1 v2) lk_X7_holds im_X7_holds se_X7_holds ml_X7_208 rfl (by rw [hR]; exact ⟨Nat.le_of_ble_eq_true rfl, Nat.le_of_ble_eq_true rfl⟩) (Nat.le_trans hd (by decide)) ⟨hc, hs⟩ dX7_make_170 h)) (S_istore (ev := fun seq_78 => [(7, .int seq_78), (6, .int is_7), (0, va_rf (some this)), (1, .int person_), (2, .int its_), (3, .int when_), (4, .int clock_), (5, .int hours_)]) X dX7_make_173 (by rw [hN]; decide) (fun _ => rfl)) fun seq_78 =>
  (SB_retI X C hr dX7_make_181 (XE_2 wI (XE_1 (L_aload_n (r := (some this)) 2 X dX7_make_175 rfl rfl) (O_gi (c := 8) (j := 3) X rfl inW7 (by decide) fl_X7_143 rfl dX7_make_176)) (L_iconst (v := 1) X dX7_make_179 (by decide)) (O_isub X dX7_make_180)))))))))))))))) h (by rw [hR]; decide) (by rw [hR]; decide)
theorem dX7_isHeld_0 : decode cX7_isHeld 0 = .ok (.aload_n 0, 1) := by decide +kernel
theorem dX7_isHeld_1 : decode cX7_isHeld 1 = .ok (.iload_n 1, 1) := by decide +kernel
theorem dX7_isHeld_2 : decode cX7_isHeld 2 = .ok (.invokevirtual 211, 3) := by decide +kernel
theorem dX7_isHeld_5 : decode cX7_isHeld 5 = .ok (.ifCond .eq 21, 3) := by decide +kernel
theorem dX7_isHeld_8 : decode cX7_isHeld 8 = .ok (.aload_n 0, 1) := by decide +kernel
theorem dX7_isHeld_9 : decode cX7_isHeld 9 = .ok (.getfield 62, 3) := by decide +kernel
theorem dX7_isHeld_12 : decode cX7_isHeld 12 = .ok (.aload_n 0, 1) := by decide +kernel
theorem dX7_isHeld_13 : decode cX7_isHeld 13 = .ok (.getfield 22, 3) := by decide +kernel
theorem dX7_isHeld_16 : decode cX7_isHeld 16 = .ok (.iload_n 1, 1) := by decide +kernel
theorem dX7_isHeld_17 : decode cX7_isHeld 17 = .ok (.iaload, 1) := by decide +kernel
theorem dX7_isHeld_18 : decode cX7_isHeld 18 = .ok (.baload, 1) := by decide +kernel
theorem dX7_isHeld_19 : decode cX7_isHeld 19 = .ok (.ifCond .ne 7, 3) := by decide +kernel
theorem dX7_isHeld_22 : decode cX7_isHeld 22 = .ok (.iconst 1, 1) := by decide +kernel
theorem dX7_isHeld_23 : decode cX7_isHeld 23 = .ok (.goto 4, 3) := by decide +kernel
theorem dX7_isHeld_26 : decode cX7_isHeld 26 = .ok (.iconst 0, 1) := by decide +kernel
theorem dX7_isHeld_27 : decode cX7_isHeld 27 = .ok (.ireturn, 1) := by decide +kernel
theorem lk_X7_isHeld : LK yX7_isHeld cX7_isHeld 2 (some .boolean) 1 := ⟨qW_at 1532 (by decide +kernel) rfl, qW_at 78 (by decide +kernel) rfl, by decide, by decide, by decide +kernel⟩
theorem im_X7_isHeld : Cond.instanceMethod yX7_isHeld ∈ qW := qW_at 1531 (by decide +kernel) rfl
theorem se_X7_isHeld : Cond.selects RX7 yX7_isHeld yX7_isHeld ∈ qW := qW_at 38 (by decide +kernel) rfl
def F_X7_isHeld (this : Nat) (its_ : Int32) : QX Int32 :=
  (xb (xb (xb (xb (xb (xp (some this)) fun v1 => xb (xp its_) fun v2 => xo 8 v1 fun q => F_X7_isMeeting q v2) fun v3 => xp (decide (¬ v3 = 0))) fun v12 => if v12 then (xb (xb (xb (xb (xp (some this)) fun v4 => xgr 8 19 v4) fun v8 => xb (xb (xb (xp (some this)) fun v5 => xgr 8 5 v5) fun v6 => xb (xp its_) fun v7 => xai 0 v6 v7) fun v9 => xai 1 v8 v9) fun v10 => xp (decide (¬ v10 = 0))) fun v11 => xp (!v11)) else xp false) fun v13 => xp (b2i v13)) xz)
set_option maxRecDepth 100000 in
set_option maxHeartbeats 4000000 in
theorem M_X7_isHeld (this : Nat) (its_ : Int32) : MM yX7_isHeld cX7_isHeld 2 (some .boolean) 2 43 0 0 encI [.ref this, .int its_] (F_X7_isHeld this its_) := by
  refine MM_of (env0 := [(0, va_rf (some this)), (1, .int its_)]) (by decide) (by exact Nat.le_of_ble_eq_true rfl) (by rfl) (fun k mm res X C hR hN hr hname h => ?_)
  have X : CX k cX7_isHeld RX7 := X
  have hT : TH k (fun e m' => res = (.error e, m')) := TH_of C
  have htr := C.2.2.2.1
  unfold F_X7_isHeld at h
  exact SB_go (T := fun e m' => res = (.error e, m')) (RET := fun v m' => res = (.ok v, m')) (SB_retZ X C hr dX7_isHeld_27 (XE_b2i (CE_and (CE_1 (XE_2 (pB := pI) wR (L_aload_n (r := (some this)) 0 X dX7_isHeld_0 rfl rfl) (L_iload_n (x := its_) 1 X dX7_isHeld_1 rfl rfl) (fun v0 v1 st mm a b hd hc hs h => g_callVo (st := st) (cI := 8) X hT htr rfl (fun q => M_X7_isMeeting q v1) lk_X7_isMeeting im_X7_isMeeting se_X7_isMeeting ml_X7_211 rfl (by rw [hR]; exact ⟨Nat.le_of_ble_eq_true rfl, Nat.le_of_ble_eq_true rfl⟩) (Nat.le_trans hd (by decide)) ⟨hc, hs⟩ dX7_isHeld_2 h)) (Z_ne_F X dX7_isHeld_5 (by decide))) (CE_not (CE_1 (XE_2 wR (XE_1 (L_aload_n (r := (some this)) 0 X dX7_isHeld_8 rfl rfl) (O_gr (c := 8) (j := 19) X rfl inW7 (by decide) fl_X7_62 rfl dX7_isHeld_9)) (XE_2 wR (XE_1 (L_aload_n (r := (some this)) 0 X dX7_isHeld_12 rfl rfl) (O_gr (c := 8) (j := 5) X rfl inW7 (by decide) fl_X7_22 rfl dX7_isHeld_13)) (L_iload_n (x := its_) 1 X dX7_isHeld_16 rfl rfl) (O_ai X dX7_isHeld_17)) (O_az X dX7_isHeld_18)) (Z_ne_T X dX7_isHeld_19 (by decide))))) (S_b1 X dX7_isHeld_22 dX7_isHeld_23 (by decide)) (S_b0 X dX7_isHeld_26))) h (by rw [hR]; decide) (by rw [hR]; decide)
theorem dX7_time_0 : decode cX7_time 0 = .ok (.aload_n 0, 1) := by decide +kernel
theorem dX7_time_1 : decode cX7_time 1 = .ok (.aload_n 0, 1) := by decide +kernel
theorem dX7_time_2 : decode cX7_time 2 = .ok (.iload_n 1, 1) := by decide +kernel
theorem dX7_time_3 : decode cX7_time 3 = .ok (.invokevirtual 211, 3) := by decide +kernel
theorem dX7_time_6 : decode cX7_time 6 = .ok (.iload_n 2, 1) := by decide +kernel
theorem dX7_time_7 : decode cX7_time 7 = .ok (.iload_n 3, 1) := by decide +kernel
theorem dX7_time_8 : decode cX7_time 8 = .ok (.iload 4, 2) := by decide +kernel
theorem dX7_time_10 : decode cX7_time 10 = .ok (.invokestatic 205, 3) := by decide +kernel
theorem dX7_time_13 : decode cX7_time 13 = .ok (.aload_n 0, 1) := by decide +kernel
theorem dX7_time_14 : decode cX7_time 14 = .ok (.iload_n 1, 1) := by decide +kernel
theorem dX7_time_15 : decode cX7_time 15 = .ok (.invokevirtual 214, 3) := by decide +kernel
theorem dX7_time_18 : decode cX7_time 18 = .ok (.invokevirtual 153, 3) := by decide +kernel
theorem dX7_time_21 : decode cX7_time 21 = .ok (.ifCond .ne 5, 3) := by decide +kernel
theorem dX7_time_24 : decode cX7_time 24 = .ok (.iconst 0, 1) := by decide +kernel
theorem dX7_time_25 : decode cX7_time 25 = .ok (.ireturn, 1) := by decide +kernel
theorem dX7_time_26 : decode cX7_time 26 = .ok (.aload_n 0, 1) := by decide +kernel
theorem dX7_time_27 : decode cX7_time 27 = .ok (.iload_n 1, 1) := by decide +kernel
theorem dX7_time_28 : decode cX7_time 28 = .ok (.invokevirtual 217, 3) := by decide +kernel
theorem dX7_time_31 : decode cX7_time 31 = .ok (.istore 5, 2) := by decide +kernel
theorem dX7_time_33 : decode cX7_time 33 = .ok (.aload_n 0, 1) := by decide +kernel
theorem dX7_time_34 : decode cX7_time 34 = .ok (.getfield 38, 3) := by decide +kernel
theorem dX7_time_37 : decode cX7_time 37 = .ok (.iload 5, 2) := by decide +kernel
theorem dX7_time_39 : decode cX7_time 39 = .ok (.iload_n 2, 1) := by decide +kernel
theorem dX7_time_40 : decode cX7_time 40 = .ok (.iastore, 1) := by decide +kernel
theorem dX7_time_41 : decode cX7_time 41 = .ok (.aload_n 0, 1) := by decide +kernel
theorem dX7_time_42 : decode cX7_time 42 = .ok (.getfield 41, 3) := by decide +kernel
theorem dX7_time_45 : decode cX7_time 45 = .ok (.iload 5, 2) := by decide +kernel
theorem dX7_time_47 : decode cX7_time 47 = .ok (.iload_n 3, 1) := by decide +kernel
theorem dX7_time_48 : decode cX7_time 48 = .ok (.iastore, 1) := by decide +kernel
theorem dX7_time_49 : decode cX7_time 49 = .ok (.aload_n 0, 1) := by decide +kernel
theorem dX7_time_50 : decode cX7_time 50 = .ok (.getfield 44, 3) := by decide +kernel
theorem dX7_time_53 : decode cX7_time 53 = .ok (.iload 5, 2) := by decide +kernel
theorem dX7_time_55 : decode cX7_time 55 = .ok (.iload 4, 2) := by decide +kernel
theorem dX7_time_57 : decode cX7_time 57 = .ok (.iastore, 1) := by decide +kernel
theorem dX7_time_58 : decode cX7_time 58 = .ok (.aload_n 0, 1) := by decide +kernel
theorem dX7_time_59 : decode cX7_time 59 = .ok (.iload 5, 2) := by decide +kernel
theorem dX7_time_61 : decode cX7_time 61 = .ok (.invokevirtual 221, 3) := by decide +kernel
theorem dX7_time_64 : decode cX7_time 64 = .ok (.aload_n 0, 1) := by decide +kernel
theorem dX7_time_65 : decode cX7_time 65 = .ok (.iload_n 1, 1) := by decide +kernel
theorem dX7_time_66 : decode cX7_time 66 = .ok (.iload 5, 2) := by decide +kernel
theorem dX7_time_68 : decode cX7_time 68 = .ok (.invokevirtual 208, 3) := by decide +kernel
theorem dX7_time_71 : decode cX7_time 71 = .ok (.ireturn, 1) := by decide +kernel
theorem lk_X7_time : LK yX7_time cX7_time 6 (some .int) 4 := ⟨qW_at 1524 (by decide +kernel) rfl, qW_at 78 (by decide +kernel) rfl, by decide, by decide, by decide +kernel⟩
theorem im_X7_time : Cond.instanceMethod yX7_time ∈ qW := qW_at 1522 (by decide +kernel) rfl
theorem se_X7_time : Cond.selects RX7 yX7_time yX7_time ∈ qW := qW_at 1523 (by decide +kernel) rfl
def F_X7_time (this : Nat) (its_ : Int32) (when_ : Int32) (clock_ : Int32) (hours_ : Int32) : QX Int32 :=
  (xb (xb (xb (xb (xp (some this)) fun v8 => xb (xb (xp (some this)) fun v1 => xb (xp its_) fun v2 => xo 8 v1 fun q => F_X7_isMeeting q v2) fun v9 => xb (xb (xp when_) fun v3 => xb (xp clock_) fun v4 => xb (xp hours_) fun v5 => F_X7_isTime v3 v4 v5) fun v10 => xb (xb (xp (some this)) fun v6 => xb (xp its_) fun v7 => xo 8 v6 fun q => F_X7_isHeld q v7) fun v11 => xo 8 v8 fun q => F_X7_goes q v9 v10 v11) fun v12 => xp (decide (¬ v12 = 0))) fun v13 => xp (!v13)) fun v34 => if v34 then (xp (0 : Int32)) else
  (xb (xb (xp (some this)) fun v14 => xb (xp its_) fun v15 => xo 8 v14 fun q => F_X7_next q v15) fun to_16 =>
  (xb (xb (xb (xp (some this)) fun v17 => xgr 8 11 v17) fun v18 => xb (xp to_16) fun v19 => xb (xp when_) fun v20 => xsai v18 v19 v20) fun _ =>
  (xb (xb (xb (xp (some this)) fun v21 => xgr 8 12 v21) fun v22 => xb (xp to_16) fun v23 => xb (xp clock_) fun v24 => xsai v22 v23 v24) fun _ =>
  (xb (xb (xb (xp (some this)) fun v25 => xgr 8 13 v25) fun v26 => xb (xp to_16) fun v27 => xb (xp hours_) fun v28 => xsai v26 v27 v28) fun _ =>
  (xb (xb (xp (some this)) fun v29 => xb (xp to_16) fun v30 => xo 8 v29 fun q => F_X7_standsAll q v30) fun _ =>
  (xb (xp (some this)) fun v31 => xb (xp its_) fun v32 => xb (xp to_16) fun v33 => xo 8 v31 fun q => F_X7_holds q v32 v33)))))))
set_option maxRecDepth 100000 in
set_option maxHeartbeats 4000000 in
theorem M_X7_time (this : Nat) (its_ : Int32) (when_ : Int32) (clock_ : Int32) (hours_ : Int32) : MM yX7_time cX7_time 6 (some .int) 4 91 0 0 encI [.ref this, .int its_, .int when_, .int clock_, .int hours_] (F_X7_time this its_ when_ clock_ hours_) := by
  refine MM_of (env0 := [(0, va_rf (some this)), (1, .int its_), (2, .int when_), (3, .int clock_), (4, .int hours_)]) (by decide) (by exact Nat.le_of_ble_eq_true rfl) (by rfl) (fun k mm res X C hR hN hr hname h => ?_)
  have X : CX k cX7_time RX7 := X
  have hT : TH k (fun e m' => res = (.error e, m')) := TH_of C
  have htr := C.2.2.2.1
  unfold F_X7_time at h
  exact SB_go (T := fun e m' => res = (.error e, m')) (RET := fun v m' => res = (.ok v, m')) (SB_if (CE_not (CE_1 (XE_4 (pB := pI) wR wI wI (L_aload_n (r := (some this)) 0 X dX7_time_0 rfl rfl) (XE_2 (pB := pI) wR (L_aload_n (r := (some this)) 0 X dX7_time_1 rfl rfl) (L_iload_n (x := its_) 1 X dX7_time_2 rfl rfl) (fun v0 v1 st mm a b hd hc hs h => g_callVo (st := st) (cI := 8) X hT htr rfl (fun q => M_X7_isMeeting q v1) lk_X7_isMeeting im_X7_isMeeting se_X7_isMeeting ml_X7_211 rfl (by rw [hR]; exact ⟨Nat.le_of_ble_eq_true rfl, Nat.le_of_ble_eq_true rfl⟩) (Nat.le_trans hd (by decide)) ⟨hc, hs⟩ dX7_time_3 h)) (XE_3 (pB := pI) wI wI (L_iload_n (x := when_) 2 X dX7_time_6 rfl rfl) (L_iload_n (x := clock_) 3 X dX7_time_7 rfl rfl) (L_iload (x := hours_) 4 X dX7_time_8 rfl) (fun v0 v1 v2 st mm a b hd hc hs h => g_callS (st := st) X hT htr (M_X7_isTime v0 v1 v2) lk_X7_isTime st_X7_isTime ml_X7_205 rfl (by rw [hR]; exact ⟨Nat.le_of_ble_eq_true rfl, Nat.le_of_ble_eq_true rfl⟩) (Nat.le_trans hd (by decide)) ⟨hc, hs⟩ dX7_time_10 h)) (XE_2 (pB := pI) wR (L_aload_n (r := (some this)) 0 X dX7_time_13 rfl rfl) (L_iload_n (x := its_) 1 X dX7_time_14 rfl rfl) (fun v0 v1 st mm a b hd hc hs h => g_callVo (st := st) (cI := 8) X hT htr rfl (fun q => M_X7_isHeld q v1) lk_X7_isHeld im_X7_isHeld se_X7_isHeld ml_X7_214 rfl (by rw [hR]; exact ⟨Nat.le_of_ble_eq_true rfl, Nat.le_of_ble_eq_true rfl⟩) (Nat.le_trans hd (by decide)) ⟨hc, hs⟩ dX7_time_15 h)) (fun v0 v1 v2 v3 st mm a b hd hc hs h => g_callVo (st := st) (cI := 8) X hT htr rfl (fun q => M_X7_goes q v1 v2 v3) lk_X7_goes im_X7_goes se_X7_goes ml_X7_153 rfl (by rw [hR]; exact ⟨Nat.le_of_ble_eq_true rfl, Nat.le_of_ble_eq_true rfl⟩) (Nat.le_trans hd (by decide)) ⟨hc, hs⟩ dX7_time_18 h)) (Z_ne_T X dX7_time_21 (by decide))))
  (SB_retI X C hr dX7_time_25 (L_iconst (v := 0) X dX7_time_24 (by decide)))
  (SB_let (XE_2 (pB := pI) wR (L_aload_n (r := (some this)) 0 X dX7_time_26 rfl rfl) (L_iload_n (x := its_) 1 X dX7_time_27 rfl rfl) (fun v0 v1 st mm a b hd hc hs h => g_callVo (st := st) (cI := 8) X hT htr rfl (fun q => M_X7_next q v1) lk_X7_next im_X7_next se_X7_next ml_X7_217 rfl (by rw [hR]; exact ⟨Nat.le_of_ble_eq_true rfl, Nat.le_of_ble_eq_true rfl⟩) (Nat.le_trans hd (by decide)) ⟨hc, hs⟩ dX7_time_28 h)) (S_istore (ev := fun to_16 => [(5, .int to_16), (0, va_rf (some this)), (1, .int its_), (2, .int when_), (3, .int clock_), (4, .int hours_)]) X dX7_time_31 (by rw [hN]; decide) (fun _ => rfl)) fun to_16 =>
  (SB_do (XE_3 wR wI (XE_1 (L_aload_n (r := (some this)) 1 X dX7_time_33 rfl rfl) (O_gr (c := 8) (j := 11) X rfl inW7 (by decide) fl_X7_38 rfl dX7_time_34)) (L_iload (x := to_16) 0 X dX7_time_37 rfl) (L_iload_n (x := when_) 3 X dX7_time_39 rfl rfl) (O_sai X dX7_time_40))
  (SB_do (XE_3 wR wI (XE_1 (L_aload_n (r := (some this)) 1 X dX7_time_41 rfl rfl) (O_gr (c := 8) (j := 12) X rfl inW7 (by decide) fl_X7_41 rfl dX7_time_42)) (L_iload (x := to_16) 0 X dX7_time_45 rfl) (L_iload_n (x := clock_) 4 X dX7_time_47 rfl rfl) (O_sai X dX7_time_48))
  (SB_do (XE_3 wR wI (XE_1 (L_aload_n (r := (some this)) 1 X dX7_time_49 rfl rfl) (O_gr (c := 8) (j := 13) X rfl inW7 (by decide) fl_X7_44 rfl dX7_time_50)) (L_iload (x := to_16) 0 X dX7_time_53 rfl) (L_iload (x := hours_) 5 X dX7_time_55 rfl) (O_sai X dX7_time_57))
  (SB_do (XE_2 (pB := pU) wR (L_aload_n (r := (some this)) 1 X dX7_time_58 rfl rfl) (L_iload (x := to_16) 0 X dX7_time_59 rfl) (fun v0 v1 st mm a b hd hc hs h => g_callVo (st := st) (cI := 8) X hT htr rfl (fun q => M_X7_standsAll q v1) lk_X7_standsAll im_X7_standsAll se_X7_standsAll ml_X7_221 rfl (by rw [hR]; exact ⟨Nat.le_of_ble_eq_true rfl, Nat.le_of_ble_eq_true rfl⟩) (Nat.le_trans hd (by decide)) ⟨hc, hs⟩ dX7_time_61 h))
  (SB_retI X C hr dX7_time_71 (XE_3 (pB := pI) wR wI (L_aload_n (r := (some this)) 1 X dX7_time_64 rfl rfl) (L_iload_n (x := its_) 2 X dX7_time_65 rfl rfl) (L_iload (x := to_16) 0 X dX7_time_66 rfl) (fun v0 v1 v2 st mm a b hd hc hs h => g_callVo (st := st) (cI := 8) X hT htr rfl (fun q => M_X7_holds q v1 v2) lk_X7_holds im_X7_holds se_X7_holds ml_X7_208 rfl (by rw [hR]; exact ⟨Nat.le_of_ble_eq_true rfl, Nat.le_of_ble_eq_true rfl⟩) (Nat.le_trans hd (by decide)) ⟨hc, hs⟩ dX7_time_68 h))))))))) h (by rw [hR]; decide) (by rw [hR]; decide)
theorem dX7_repeat_0 : decode cX7_repeat 0 = .ok (.aload_n 0, 1) := by decide +kernel
theorem dX7_repeat_1 : decode cX7_repeat 1 = .ok (.aload_n 0, 1) := by decide +kernel
theorem dX7_repeat_2 : decode cX7_repeat 2 = .ok (.iload_n 1, 1) := by decide +kernel
theorem dX7_repeat_3 : decode cX7_repeat 3 = .ok (.invokevirtual 211, 3) := by decide +kernel
theorem dX7_repeat_6 : decode cX7_repeat 6 = .ok (.iload_n 2, 1) := by decide +kernel
theorem dX7_repeat_7 : decode cX7_repeat 7 = .ok (.iconst 1, 1) := by decide +kernel
theorem dX7_repeat_8 : decode cX7_repeat 8 = .ok (.bipush 28, 2) := by decide +kernel
theorem dX7_repeat_10 : decode cX7_repeat 10 = .ok (.invokestatic 139, 3) := by decide +kernel
theorem dX7_repeat_13 : decode cX7_repeat 13 = .ok (.ifCond .eq 28, 3) := by decide +kernel
theorem dX7_repeat_16 : decode cX7_repeat 16 = .ok (.iload_n 3, 1) := by decide +kernel
theorem dX7_repeat_17 : decode cX7_repeat 17 = .ok (.iconst 1, 1) := by decide +kernel
theorem dX7_repeat_18 : decode cX7_repeat 18 = .ok (.bipush 127, 2) := by decide +kernel
theorem dX7_repeat_20 : decode cX7_repeat 20 = .ok (.invokestatic 139, 3) := by decide +kernel
theorem dX7_repeat_23 : decode cX7_repeat 23 = .ok (.ifCond .eq 18, 3) := by decide +kernel
theorem dX7_repeat_26 : decode cX7_repeat 26 = .ok (.iload 4, 2) := by decide +kernel
theorem dX7_repeat_28 : decode cX7_repeat 28 = .ok (.iconst 1, 1) := by decide +kernel
theorem dX7_repeat_29 : decode cX7_repeat 29 = .ok (.bipush 10, 2) := by decide +kernel
theorem dX7_repeat_31 : decode cX7_repeat 31 = .ok (.invokestatic 139, 3) := by decide +kernel
theorem dX7_repeat_34 : decode cX7_repeat 34 = .ok (.ifCond .eq 7, 3) := by decide +kernel
theorem dX7_repeat_37 : decode cX7_repeat 37 = .ok (.iconst 1, 1) := by decide +kernel
theorem dX7_repeat_38 : decode cX7_repeat 38 = .ok (.goto 4, 3) := by decide +kernel
theorem dX7_repeat_41 : decode cX7_repeat 41 = .ok (.iconst 0, 1) := by decide +kernel
theorem dX7_repeat_42 : decode cX7_repeat 42 = .ok (.aload_n 0, 1) := by decide +kernel
theorem dX7_repeat_43 : decode cX7_repeat 43 = .ok (.iload_n 1, 1) := by decide +kernel
theorem dX7_repeat_44 : decode cX7_repeat 44 = .ok (.invokevirtual 214, 3) := by decide +kernel
theorem dX7_repeat_47 : decode cX7_repeat 47 = .ok (.invokevirtual 153, 3) := by decide +kernel
theorem dX7_repeat_50 : decode cX7_repeat 50 = .ok (.ifCond .ne 5, 3) := by decide +kernel
theorem dX7_repeat_53 : decode cX7_repeat 53 = .ok (.iconst 0, 1) := by decide +kernel
theorem dX7_repeat_54 : decode cX7_repeat 54 = .ok (.ireturn, 1) := by decide +kernel
theorem dX7_repeat_55 : decode cX7_repeat 55 = .ok (.aload_n 0, 1) := by decide +kernel
theorem dX7_repeat_56 : decode cX7_repeat 56 = .ok (.iload_n 1, 1) := by decide +kernel
theorem dX7_repeat_57 : decode cX7_repeat 57 = .ok (.invokevirtual 217, 3) := by decide +kernel
theorem dX7_repeat_60 : decode cX7_repeat 60 = .ok (.istore 5, 2) := by decide +kernel
theorem dX7_repeat_62 : decode cX7_repeat 62 = .ok (.aload_n 0, 1) := by decide +kernel
theorem dX7_repeat_63 : decode cX7_repeat 63 = .ok (.getfield 47, 3) := by decide +kernel
theorem dX7_repeat_66 : decode cX7_repeat 66 = .ok (.iload 5, 2) := by decide +kernel
theorem dX7_repeat_68 : decode cX7_repeat 68 = .ok (.iload_n 2, 1) := by decide +kernel
theorem dX7_repeat_69 : decode cX7_repeat 69 = .ok (.iastore, 1) := by decide +kernel
theorem dX7_repeat_70 : decode cX7_repeat 70 = .ok (.aload_n 0, 1) := by decide +kernel
theorem dX7_repeat_71 : decode cX7_repeat 71 = .ok (.getfield 50, 3) := by decide +kernel
theorem dX7_repeat_74 : decode cX7_repeat 74 = .ok (.iload 5, 2) := by decide +kernel
theorem dX7_repeat_76 : decode cX7_repeat 76 = .ok (.iload_n 3, 1) := by decide +kernel
theorem dX7_repeat_77 : decode cX7_repeat 77 = .ok (.iastore, 1) := by decide +kernel
theorem dX7_repeat_78 : decode cX7_repeat 78 = .ok (.aload_n 0, 1) := by decide +kernel
theorem dX7_repeat_79 : decode cX7_repeat 79 = .ok (.getfield 53, 3) := by decide +kernel
theorem dX7_repeat_82 : decode cX7_repeat 82 = .ok (.iload 5, 2) := by decide +kernel
theorem dX7_repeat_84 : decode cX7_repeat 84 = .ok (.iload 4, 2) := by decide +kernel
theorem dX7_repeat_86 : decode cX7_repeat 86 = .ok (.iastore, 1) := by decide +kernel
theorem dX7_repeat_87 : decode cX7_repeat 87 = .ok (.aload_n 0, 1) := by decide +kernel
theorem dX7_repeat_88 : decode cX7_repeat 88 = .ok (.iload 5, 2) := by decide +kernel
theorem dX7_repeat_90 : decode cX7_repeat 90 = .ok (.invokevirtual 221, 3) := by decide +kernel
theorem dX7_repeat_93 : decode cX7_repeat 93 = .ok (.aload_n 0, 1) := by decide +kernel
theorem dX7_repeat_94 : decode cX7_repeat 94 = .ok (.iload_n 1, 1) := by decide +kernel
theorem dX7_repeat_95 : decode cX7_repeat 95 = .ok (.iload 5, 2) := by decide +kernel
theorem dX7_repeat_97 : decode cX7_repeat 97 = .ok (.invokevirtual 208, 3) := by decide +kernel
theorem dX7_repeat_100 : decode cX7_repeat 100 = .ok (.ireturn, 1) := by decide +kernel
theorem lk_X7_repeat : LK yX7_repeat cX7_repeat 6 (some .int) 4 := ⟨qW_at 1552 (by decide +kernel) rfl, qW_at 78 (by decide +kernel) rfl, by decide, by decide, by decide +kernel⟩
theorem im_X7_repeat : Cond.instanceMethod yX7_repeat ∈ qW := qW_at 1550 (by decide +kernel) rfl
theorem se_X7_repeat : Cond.selects RX7 yX7_repeat yX7_repeat ∈ qW := qW_at 1551 (by decide +kernel) rfl
def F_X7_repeat (this : Nat) (its_ : Int32) (days_ : Int32) (set_ : Int32) (many_ : Int32) : QX Int32 :=
  (xb (xb (xb (xb (xp (some this)) fun v20 => xb (xb (xp (some this)) fun v1 => xb (xp its_) fun v2 => xo 8 v1 fun q => F_X7_isMeeting q v2) fun v21 => xb (xb (xb (xb (xb (xb (xp days_) fun v3 => xb (xp (1 : Int32)) fun v4 => xb (xp (28 : Int32)) fun v5 => F_X7_in v3 v4 v5) fun v6 => xp (decide (¬ v6 = 0))) fun v11 => if v11 then (xb (xb (xp set_) fun v7 => xb (xp (1 : Int32)) fun v8 => xb (xp (127 : Int32)) fun v9 => F_X7_in v7 v8 v9) fun v10 => xp (decide (¬ v10 = 0))) else xp false) fun v16 => if v16 then (xb (xb (xp many_) fun v12 => xb (xp (1 : Int32)) fun v13 => xb (xp (10 : Int32)) fun v14 => F_X7_in v12 v13 v14) fun v15 => xp (decide (¬ v15 = 0))) else xp false) fun v17 => xp (b2i v17)) fun v22 => xb (xb (xp (some this)) fun v18 => xb (xp its_) fun v19 => xo 8 v18 fun q => F_X7_isHeld q v19) fun v23 => xo 8 v20 fun q => F_X7_goes q v21 v22 v23) fun v24 => xp (decide (¬ v24 = 0))) fun v25 => xp (!v25)) fun v46 => if v46 then (xp (0 : Int32)) else
  (xb (xb (xp (some this)) fun v26 => xb (xp its_) fun v27 => xo 8 v26 fun q => F_X7_next q v27) fun to_28 =>
  (xb (xb (xb (xp (some this)) fun v29 => xgr 8 14 v29) fun v30 => xb (xp to_28) fun v31 => xb (xp days_) fun v32 => xsai v30 v31 v32) fun _ =>
  (xb (xb (xb (xp (some this)) fun v33 => xgr 8 15 v33) fun v34 => xb (xp to_28) fun v35 => xb (xp set_) fun v36 => xsai v34 v35 v36) fun _ =>
  (xb (xb (xb (xp (some this)) fun v37 => xgr 8 16 v37) fun v38 => xb (xp to_28) fun v39 => xb (xp many_) fun v40 => xsai v38 v39 v40) fun _ =>
  (xb (xb (xp (some this)) fun v41 => xb (xp to_28) fun v42 => xo 8 v41 fun q => F_X7_standsAll q v42) fun _ =>
  (xb (xp (some this)) fun v43 => xb (xp its_) fun v44 => xb (xp to_28) fun v45 => xo 8 v43 fun q => F_X7_holds q v44 v45)))))))
set_option maxRecDepth 100000 in
set_option maxHeartbeats 4000000 in
theorem M_X7_repeat (this : Nat) (its_ : Int32) (days_ : Int32) (set_ : Int32) (many_ : Int32) : MM yX7_repeat cX7_repeat 6 (some .int) 4 91 0 0 encI [.ref this, .int its_, .int days_, .int set_, .int many_] (F_X7_repeat this its_ days_ set_ many_) := by
  refine MM_of (env0 := [(0, va_rf (some this)), (1, .int its_), (2, .int days_), (3, .int set_), (4, .int many_)]) (by decide) (by exact Nat.le_of_ble_eq_true rfl) (by rfl) (fun k mm res X C hR hN hr hname h => ?_)
  have X : CX k cX7_repeat RX7 := X
  have hT : TH k (fun e m' => res = (.error e, m')) := TH_of C
  have htr := C.2.2.2.1
  unfold F_X7_repeat at h
  exact SB_go (T := fun e m' => res = (.error e, m')) (RET := fun v m' => res = (.ok v, m')) (SB_if (CE_not (CE_1 (XE_4 (pB := pI) wR wI wI (L_aload_n (r := (some this)) 0 X dX7_repeat_0 rfl rfl) (XE_2 (pB := pI) wR (L_aload_n (r := (some this)) 0 X dX7_repeat_1 rfl rfl) (L_iload_n (x := its_) 1 X dX7_repeat_2 rfl rfl) (fun v0 v1 st mm a b hd hc hs h => g_callVo (st := st) (cI := 8) X hT htr rfl (fun q => M_X7_isMeeting q v1) lk_X7_isMeeting im_X7_isMeeting se_X7_isMeeting ml_X7_211 rfl (by rw [hR]; exact ⟨Nat.le_of_ble_eq_true rfl, Nat.le_of_ble_eq_true rfl⟩) (Nat.le_trans hd (by decide)) ⟨hc, hs⟩ dX7_repeat_3 h)) (XE_b2i (CE_and (CE_and (CE_1 (XE_3 (pB := pI) wI wI (L_iload_n (x := days_) 2 X dX7_repeat_6 rfl rfl) (L_iconst (v := 1) X dX7_repeat_7 (by decide)) (L_bipush (v := (28)) X dX7_repeat_8 (by decide)) (fun v0 v1 v2 st mm a b hd hc hs h => g_callS (st := st) X hT htr (M_X7_in v0 v1 v2) lk_X7_in st_X7_in ml_X7_139 rfl (by rw [hR]; exact ⟨Nat.le_of_ble_eq_true rfl, Nat.le_of_ble_eq_true rfl⟩) (Nat.le_trans hd (by decide)) ⟨hc, hs⟩ dX7_repeat_10 h)) (Z_ne_F X dX7_repeat_13 (by decide))) (CE_1 (XE_3 (pB := pI) wI wI (L_iload_n (x := set_) 3 X dX7_repeat_16 rfl rfl) (L_iconst (v := 1) X dX7_repeat_17 (by decide)) (L_bipush (v := (127)) X dX7_repeat_18 (by decide)) (fun v0 v1 v2 st mm a b hd hc hs h => g_callS (st := st) X hT htr (M_X7_in v0 v1 v2) lk_X7_in st_X7_in ml_X7_139 rfl (by rw [hR]; exact ⟨Nat.le_of_ble_eq_true rfl, Nat.le_of_ble_eq_true rfl⟩) (Nat.le_trans hd (by decide)) ⟨hc, hs⟩ dX7_repeat_20 h)) (Z_ne_F X dX7_repeat_23 (by decide)))) (CE_1 (XE_3 (pB := pI) wI wI (L_iload (x := many_) 4 X dX7_repeat_26 rfl) (L_iconst (v := 1) X dX7_repeat_28 (by decide)) (L_bipush (v := (10)) X dX7_repeat_29 (by decide)) (fun v0 v1 v2 st mm a b hd hc hs h => g_callS (st := st) X hT htr (M_X7_in v0 v1 v2) lk_X7_in st_X7_in ml_X7_139 rfl (by rw [hR]; exact ⟨Nat.le_of_ble_eq_true rfl, Nat.le_of_ble_eq_true rfl⟩) (Nat.le_trans hd (by decide)) ⟨hc, hs⟩ dX7_repeat_31 h)) (Z_ne_F X dX7_repeat_34 (by decide)))) (S_b1 X dX7_repeat_37 dX7_repeat_38 (by decide)) (S_b0 X dX7_repeat_41)) (XE_2 (pB := pI) wR (L_aload_n (r := (some this)) 0 X dX7_repeat_42 rfl rfl) (L_iload_n (x := its_) 1 X dX7_repeat_43 rfl rfl) (fun v0 v1 st mm a b hd hc hs h => g_callVo (st := st) (cI := 8) X hT htr rfl (fun q => M_X7_isHeld q v1) lk_X7_isHeld im_X7_isHeld se_X7_isHeld ml_X7_214 rfl (by rw [hR]; exact ⟨Nat.le_of_ble_eq_true rfl, Nat.le_of_ble_eq_true rfl⟩) (Nat.le_trans hd (by decide)) ⟨hc, hs⟩ dX7_repeat_44 h)) (fun v0 v1 v2 v3 st mm a b hd hc hs h => g_callVo (st := st) (cI := 8) X hT htr rfl (fun q => M_X7_goes q v1 v2 v3) lk_X7_goes im_X7_goes se_X7_goes ml_X7_153 rfl (by rw [hR]; exact ⟨Nat.le_of_ble_eq_true rfl, Nat.le_of_ble_eq_true rfl⟩) (Nat.le_trans hd (by decide)) ⟨hc, hs⟩ dX7_repeat_47 h)) (Z_ne_T X dX7_repeat_50 (by decide))))
  (SB_retI X C hr dX7_repeat_54 (L_iconst (v := 0) X dX7_repeat_53 (by decide)))
  (SB_let (XE_2 (pB := pI) wR (L_aload_n (r := (some this)) 0 X dX7_repeat_55 rfl rfl) (L_iload_n (x := its_) 1 X dX7_repeat_56 rfl rfl) (fun v0 v1 st mm a b hd hc hs h => g_callVo (st := st) (cI := 8) X hT htr rfl (fun q => M_X7_next q v1) lk_X7_next im_X7_next se_X7_next ml_X7_217 rfl (by rw [hR]; exact ⟨Nat.le_of_ble_eq_true rfl, Nat.le_of_ble_eq_true rfl⟩) (Nat.le_trans hd (by decide)) ⟨hc, hs⟩ dX7_repeat_57 h)) (S_istore (ev := fun to_28 => [(5, .int to_28), (0, va_rf (some this)), (1, .int its_), (2, .int days_), (3, .int set_), (4, .int many_)]) X dX7_repeat_60 (by rw [hN]; decide) (fun _ => rfl)) fun to_28 =>
  (SB_do (XE_3 wR wI (XE_1 (L_aload_n (r := (some this)) 1 X dX7_repeat_62 rfl rfl) (O_gr (c := 8) (j := 14) X rfl inW7 (by decide) fl_X7_47 rfl dX7_repeat_63)) (L_iload (x := to_28) 0 X dX7_repeat_66 rfl) (L_iload_n (x := days_) 3 X dX7_repeat_68 rfl rfl) (O_sai X dX7_repeat_69))
  (SB_do (XE_3 wR wI (XE_1 (L_aload_n (r := (some this)) 1 X dX7_repeat_70 rfl rfl) (O_gr (c := 8) (j := 15) X rfl inW7 (by decide) fl_X7_50 rfl dX7_repeat_71)) (L_iload (x := to_28) 0 X dX7_repeat_74 rfl) (L_iload_n (x := set_) 4 X dX7_repeat_76 rfl rfl) (O_sai X dX7_repeat_77))
  (SB_do (XE_3 wR wI (XE_1 (L_aload_n (r := (some this)) 1 X dX7_repeat_78 rfl rfl) (O_gr (c := 8) (j := 16) X rfl inW7 (by decide) fl_X7_53 rfl dX7_repeat_79)) (L_iload (x := to_28) 0 X dX7_repeat_82 rfl) (L_iload (x := many_) 5 X dX7_repeat_84 rfl) (O_sai X dX7_repeat_86))
  (SB_do (XE_2 (pB := pU) wR (L_aload_n (r := (some this)) 1 X dX7_repeat_87 rfl rfl) (L_iload (x := to_28) 0 X dX7_repeat_88 rfl) (fun v0 v1 st mm a b hd hc hs h => g_callVo (st := st) (cI := 8) X hT htr rfl (fun q => M_X7_standsAll q v1) lk_X7_standsAll im_X7_standsAll se_X7_standsAll ml_X7_221 rfl (by rw [hR]; exact ⟨Nat.le_of_ble_eq_true rfl, Nat.le_of_ble_eq_true rfl⟩) (Nat.le_trans hd (by decide)) ⟨hc, hs⟩ dX7_repeat_90 h))
  (SB_retI X C hr dX7_repeat_100 (XE_3 (pB := pI) wR wI (L_aload_n (r := (some this)) 1 X dX7_repeat_93 rfl rfl) (L_iload_n (x := its_) 2 X dX7_repeat_94 rfl rfl) (L_iload (x := to_28) 0 X dX7_repeat_95 rfl) (fun v0 v1 v2 st mm a b hd hc hs h => g_callVo (st := st) (cI := 8) X hT htr rfl (fun q => M_X7_holds q v1 v2) lk_X7_holds im_X7_holds se_X7_holds ml_X7_208 rfl (by rw [hR]; exact ⟨Nat.le_of_ble_eq_true rfl, Nat.le_of_ble_eq_true rfl⟩) (Nat.le_trans hd (by decide)) ⟨hc, hs⟩ dX7_repeat_97 h))))))))) h (by rw [hR]; decide) (by rw [hR]; decide)
theorem dX7_drop_0 : decode cX7_drop 0 = .ok (.aload_n 0, 1) := by decide +kernel
theorem dX7_drop_1 : decode cX7_drop 1 = .ok (.iload_n 1, 1) := by decide +kernel
theorem dX7_drop_2 : decode cX7_drop 2 = .ok (.invokevirtual 211, 3) := by decide +kernel
theorem dX7_drop_5 : decode cX7_drop 5 = .ok (.istore_n 3, 1) := by decide +kernel
theorem dX7_drop_6 : decode cX7_drop 6 = .ok (.iload_n 2, 1) := by decide +kernel
theorem dX7_drop_7 : decode cX7_drop 7 = .ok (.invokestatic 157, 3) := by decide +kernel
theorem dX7_drop_10 : decode cX7_drop 10 = .ok (.istore 4, 2) := by decide +kernel
theorem dX7_drop_12 : decode cX7_drop 12 = .ok (.aload_n 0, 1) := by decide +kernel
theorem dX7_drop_13 : decode cX7_drop 13 = .ok (.iload_n 3, 1) := by decide +kernel
theorem dX7_drop_14 : decode cX7_drop 14 = .ok (.iload 4, 2) := by decide +kernel
theorem dX7_drop_16 : decode cX7_drop 16 = .ok (.iload_n 3, 1) := by decide +kernel
theorem dX7_drop_17 : decode cX7_drop 17 = .ok (.ifCond .eq 38, 3) := by decide +kernel
theorem dX7_drop_20 : decode cX7_drop 20 = .ok (.iload 4, 2) := by decide +kernel
theorem dX7_drop_22 : decode cX7_drop 22 = .ok (.ifCond .eq 33, 3) := by decide +kernel
theorem dX7_drop_25 : decode cX7_drop 25 = .ok (.aload_n 0, 1) := by decide +kernel
theorem dX7_drop_26 : decode cX7_drop 26 = .ok (.iload_n 1, 1) := by decide +kernel
theorem dX7_drop_27 : decode cX7_drop 27 = .ok (.invokevirtual 214, 3) := by decide +kernel
theorem dX7_drop_30 : decode cX7_drop 30 = .ok (.ifCond .eq 25, 3) := by decide +kernel
theorem dX7_drop_33 : decode cX7_drop 33 = .ok (.aload_n 0, 1) := by decide +kernel
theorem dX7_drop_34 : decode cX7_drop 34 = .ok (.getfield 75, 3) := by decide +kernel
theorem dX7_drop_37 : decode cX7_drop 37 = .ok (.aload_n 0, 1) := by decide +kernel
theorem dX7_drop_38 : decode cX7_drop 38 = .ok (.getfield 22, 3) := by decide +kernel
theorem dX7_drop_41 : decode cX7_drop 41 = .ok (.iload_n 1, 1) := by decide +kernel
theorem dX7_drop_42 : decode cX7_drop 42 = .ok (.iaload, 1) := by decide +kernel
theorem dX7_drop_43 : decode cX7_drop 43 = .ok (.laload, 1) := by decide +kernel
theorem dX7_drop_44 : decode cX7_drop 44 = .ok (.iload_n 2, 1) := by decide +kernel
theorem dX7_drop_45 : decode cX7_drop 45 = .ok (.invokestatic 180, 3) := by decide +kernel
theorem dX7_drop_48 : decode cX7_drop 48 = .ok (.ifCond .eq 7, 3) := by decide +kernel
theorem dX7_drop_51 : decode cX7_drop 51 = .ok (.iconst 1, 1) := by decide +kernel
theorem dX7_drop_52 : decode cX7_drop 52 = .ok (.goto 4, 3) := by decide +kernel
theorem dX7_drop_55 : decode cX7_drop 55 = .ok (.iconst 0, 1) := by decide +kernel
theorem dX7_drop_56 : decode cX7_drop 56 = .ok (.invokevirtual 153, 3) := by decide +kernel
theorem dX7_drop_59 : decode cX7_drop 59 = .ok (.ifCond .ne 5, 3) := by decide +kernel
theorem dX7_drop_62 : decode cX7_drop 62 = .ok (.iconst 0, 1) := by decide +kernel
theorem dX7_drop_63 : decode cX7_drop 63 = .ok (.ireturn, 1) := by decide +kernel
theorem dX7_drop_64 : decode cX7_drop 64 = .ok (.aload_n 0, 1) := by decide +kernel
theorem dX7_drop_65 : decode cX7_drop 65 = .ok (.iload_n 1, 1) := by decide +kernel
theorem dX7_drop_66 : decode cX7_drop 66 = .ok (.invokevirtual 217, 3) := by decide +kernel
theorem dX7_drop_69 : decode cX7_drop 69 = .ok (.istore 5, 2) := by decide +kernel
theorem dX7_drop_71 : decode cX7_drop 71 = .ok (.aload_n 0, 1) := by decide +kernel
theorem dX7_drop_72 : decode cX7_drop 72 = .ok (.getfield 69, 3) := by decide +kernel
theorem dX7_drop_75 : decode cX7_drop 75 = .ok (.iload 5, 2) := by decide +kernel
theorem dX7_drop_77 : decode cX7_drop 77 = .ok (.dup2, 1) := by decide +kernel
theorem dX7_drop_78 : decode cX7_drop 78 = .ok (.laload, 1) := by decide +kernel
theorem dX7_drop_79 : decode cX7_drop 79 = .ok (.lconst 1, 1) := by decide +kernel
theorem dX7_drop_80 : decode cX7_drop 80 = .ok (.iload_n 2, 1) := by decide +kernel
theorem dX7_drop_81 : decode cX7_drop 81 = .ok (.lshl, 1) := by decide +kernel
theorem dX7_drop_82 : decode cX7_drop 82 = .ok (.lor, 1) := by decide +kernel
theorem dX7_drop_83 : decode cX7_drop 83 = .ok (.lastore, 1) := by decide +kernel
theorem dX7_drop_84 : decode cX7_drop 84 = .ok (.aload_n 0, 1) := by decide +kernel
theorem dX7_drop_85 : decode cX7_drop 85 = .ok (.getfield 65, 3) := by decide +kernel
theorem dX7_drop_88 : decode cX7_drop 88 = .ok (.iload 5, 2) := by decide +kernel
theorem dX7_drop_90 : decode cX7_drop 90 = .ok (.dup2, 1) := by decide +kernel
theorem dX7_drop_91 : decode cX7_drop 91 = .ok (.laload, 1) := by decide +kernel
theorem dX7_drop_92 : decode cX7_drop 92 = .ok (.lconst 1, 1) := by decide +kernel
theorem dX7_drop_93 : decode cX7_drop 93 = .ok (.iload_n 2, 1) := by decide +kernel
theorem dX7_drop_94 : decode cX7_drop 94 = .ok (.lshl, 1) := by decide +kernel
theorem dX7_drop_95 : decode cX7_drop 95 = .ok (.ldc2_w 224, 3) := by decide +kernel
theorem dX7_drop_98 : decode cX7_drop 98 = .ok (.lxor, 1) := by decide +kernel
theorem dX7_drop_99 : decode cX7_drop 99 = .ok (.land, 1) := by decide +kernel
theorem dX7_drop_100 : decode cX7_drop 100 = .ok (.lastore, 1) := by decide +kernel
theorem dX7_drop_101 : decode cX7_drop 101 = .ok (.aload_n 0, 1) := by decide +kernel
theorem dX7_drop_102 : decode cX7_drop 102 = .ok (.getfield 72, 3) := by decide +kernel
theorem dX7_drop_105 : decode cX7_drop 105 = .ok (.iload 5, 2) := by decide +kernel
theorem dX7_drop_107 : decode cX7_drop 107 = .ok (.dup2, 1) := by decide +kernel
theorem dX7_drop_108 : decode cX7_drop 108 = .ok (.laload, 1) := by decide +kernel
theorem dX7_drop_109 : decode cX7_drop 109 = .ok (.lconst 1, 1) := by decide +kernel
theorem dX7_drop_110 : decode cX7_drop 110 = .ok (.iload_n 2, 1) := by decide +kernel
theorem dX7_drop_111 : decode cX7_drop 111 = .ok (.lshl, 1) := by decide +kernel
theorem dX7_drop_112 : decode cX7_drop 112 = .ok (.ldc2_w 224, 3) := by decide +kernel
theorem dX7_drop_115 : decode cX7_drop 115 = .ok (.lxor, 1) := by decide +kernel
theorem dX7_drop_116 : decode cX7_drop 116 = .ok (.land, 1) := by decide +kernel
theorem dX7_drop_117 : decode cX7_drop 117 = .ok (.lastore, 1) := by decide +kernel
theorem dX7_drop_118 : decode cX7_drop 118 = .ok (.aload_n 0, 1) := by decide +kernel
theorem dX7_drop_119 : decode cX7_drop 119 = .ok (.iload_n 1, 1) := by decide +kernel
theorem dX7_drop_120 : decode cX7_drop 120 = .ok (.iload 5, 2) := by decide +kernel
theorem dX7_drop_122 : decode cX7_drop 122 = .ok (.invokevirtual 208, 3) := by decide +kernel
theorem dX7_drop_125 : decode cX7_drop 125 = .ok (.ireturn, 1) := by decide +kernel
theorem lk_X7_drop : LK yX7_drop cX7_drop 6 (some .int) 2 := ⟨qW_at 1556 (by decide +kernel) rfl, qW_at 78 (by decide +kernel) rfl, by decide, by decide, by decide +kernel⟩
theorem im_X7_drop : Cond.instanceMethod yX7_drop ∈ qW := qW_at 1554 (by decide +kernel) rfl
theorem se_X7_drop : Cond.selects RX7 yX7_drop yX7_drop ∈ qW := qW_at 1555 (by decide +kernel) rfl
def F_X7_drop (this : Nat) (its_ : Int32) (when_ : Int32) : QX Int32 :=
  (xb (xb (xp (some this)) fun v1 => xb (xp its_) fun v2 => xo 8 v1 fun q => F_X7_isMeeting q v2) fun is_3 =>
  (xb (xb (xp when_) fun v4 => F_X7_isDay v4) fun can_5 =>
  (xb (xb (xb (xb (xp (some this)) fun v24 => xb (xp is_3) fun v25 => xb (xp can_5) fun v26 => xb (xb (xb (xb (xb (xb (xp is_3) fun v6 => xp (decide (¬ v6 = 0))) fun v8 => if v8 then (xb (xp can_5) fun v7 => xp (decide (¬ v7 = 0))) else xp false) fun v12 => if v12 then (xb (xb (xp (some this)) fun v9 => xb (xp its_) fun v10 => xo 8 v9 fun q => F_X7_isHeld q v10) fun v11 => xp (decide (¬ v11 = 0))) else xp false) fun v22 => if v22 then (xb (xb (xb (xb (xp (some this)) fun v13 => xgr 8 23 v13) fun v17 => xb (xb (xb (xp (some this)) fun v14 => xgr 8 5 v14) fun v15 => xb (xp its_) fun v16 => xai 0 v15 v16) fun v18 => xal v17 v18) fun v19 => xb (xp when_) fun v20 => F_X7_has v19 v20) fun v21 => xp (decide (¬ v21 = 0))) else xp false) fun v23 => xp (b2i v23)) fun v27 => xo 8 v24 fun q => F_X7_goes q v25 v26 v27) fun v28 => xp (decide (¬ v28 = 0))) fun v29 => xp (!v29)) fun v64 => if v64 then (xp (0 : Int32)) else
  (xb (xb (xp (some this)) fun v30 => xb (xp its_) fun v31 => xo 8 v30 fun q => F_X7_next q v31) fun to_32 =>
  (xb (xb (xb (xp (some this)) fun v33 => xgr 8 21 v33) fun v36 => xb (xp to_32) fun v37 => xb (xal v36 v37) fun v38 => xb (xb (xp (1 : Int64)) fun v34 => xb (xp when_) fun v35 => (xp (v34 <<< (v35.toInt64 &&& 63)))) fun v39 => xb (xp (v38 ||| v39)) fun v40 => xsal v36 v37 v40) fun _ =>
  (xb (xb (xb (xp (some this)) fun v41 => xgr 8 20 v41) fun v46 => xb (xp to_32) fun v47 => xb (xal v46 v47) fun v48 => xb (xb (xb (xp (1 : Int64)) fun v42 => xb (xp when_) fun v43 => (xp (v42 <<< (v43.toInt64 &&& 63)))) fun v44 => xb (xp (-1 : Int64)) fun v45 => xp (v44 ^^^ v45)) fun v49 => xb (xp (v48 &&& v49)) fun v50 => xsal v46 v47 v50) fun _ =>
  (xb (xb (xb (xp (some this)) fun v51 => xgr 8 22 v51) fun v56 => xb (xp to_32) fun v57 => xb (xal v56 v57) fun v58 => xb (xb (xb (xp (1 : Int64)) fun v52 => xb (xp when_) fun v53 => (xp (v52 <<< (v53.toInt64 &&& 63)))) fun v54 => xb (xp (-1 : Int64)) fun v55 => xp (v54 ^^^ v55)) fun v59 => xb (xp (v58 &&& v59)) fun v60 => xsal v56 v57 v60) fun _ =>
  (xb (xp (some this)) fun v61 => xb (xp its_) fun v62 => xb (xp to_32) fun v63 => xo 8 v61 fun q => F_X7_holds q v62 v63))))))))
set_option maxRecDepth 100000 in
set_option maxHeartbeats 4000000 in
theorem M_X7_drop (this : Nat) (its_ : Int32) (when_ : Int32) : MM yX7_drop cX7_drop 6 (some .int) 4 91 0 0 encI [.ref this, .int its_, .int when_] (F_X7_drop this its_ when_) := by
  refine MM_of (env0 := [(0, va_rf (some this)), (1, .int its_), (2, .int when_)]) (by decide) (by exact Nat.le_of_ble_eq_true rfl) (by rfl) (fun k mm res X C hR hN hr hname h => ?_)
  have X : CX k cX7_drop RX7 := X
  have hT : TH k (fun e m' => res = (.error e, m')) := TH_of C
  have htr := C.2.2.2.1
  unfold F_X7_drop at h
  exact SB_go (T := fun e m' => res = (.error e, m')) (RET := fun v m' => res = (.ok v, m')) (SB_let (XE_2 (pB := pI) wR (L_aload_n (r := (some this)) 0 X dX7_drop_0 rfl rfl) (L_iload_n (x := its_) 1 X dX7_drop_1 rfl rfl) (fun v0 v1 st mm a b hd hc hs h => g_callVo (st := st) (cI := 8) X hT htr rfl (fun q => M_X7_isMeeting q v1) lk_X7_isMeeting im_X7_isMeeting se_X7_isMeeting ml_X7_211 rfl (by rw [hR]; exact ⟨Nat.le_of_ble_eq_true rfl, Nat.le_of_ble_eq_true rfl⟩) (Nat.le_trans hd (by decide)) ⟨hc, hs⟩ dX7_drop_2 h)) (S_istore_n (ev := fun is_3 => [(3, .int is_3), (0, va_rf (some this)), (1, .int its_), (2, .int when_)]) X dX7_drop_5 rfl (by rw [hN]; decide) (fun _ => rfl)) fun is_3 =>
  (SB_let (XE_1 (pB := pI)  (L_iload_n (x := when_) 3 X dX7_drop_6 rfl rfl) (fun v0 st mm a b hd hc hs h => g_callS (st := st) X hT htr (M_X7_isDay v0) lk_X7_isDay st_X7_isDay ml_X7_157 rfl (by rw [hR]; exact ⟨Nat.le_of_ble_eq_true rfl, Nat.le_of_ble_eq_true rfl⟩) (Nat.le_trans hd (by decide)) ⟨hc, hs⟩ dX7_drop_7 h)) (S_istore (ev := fun can_5 => [(4, .int can_5), (3, .int is_3), (0, va_rf (some this)), (1, .int its_), (2, .int when_)]) X dX7_drop_10 (by rw [hN]; decide) (fun _ => rfl)) fun can_5 =>
  (SB_if (CE_not (CE_1 (XE_4 (pB := pI) wR wI wI (L_aload_n (r := (some this)) 2 X dX7_drop_12 rfl rfl) (L_iload_n (x := is_3) 1 X dX7_drop_13 rfl rfl) (L_iload (x := can_5) 0 X dX7_drop_14 rfl) (XE_b2i (CE_and (CE_and (CE_and (CE_1 (L_iload_n (x := is_3) 1 X dX7_drop_16 rfl rfl) (Z_ne_F X dX7_drop_17 (by decide))) (CE_1 (L_iload (x := can_5) 0 X dX7_drop_20 rfl) (Z_ne_F X dX7_drop_22 (by decide)))) (CE_1 (XE_2 (pB := pI) wR (L_aload_n (r := (some this)) 2 X dX7_drop_25 rfl rfl) (L_iload_n (x := its_) 3 X dX7_drop_26 rfl rfl) (fun v0 v1 st mm a b hd hc hs h => g_callVo (st := st) (cI := 8) X hT htr rfl (fun q => M_X7_isHeld q v1) lk_X7_isHeld im_X7_isHeld se_X7_isHeld ml_X7_214 rfl (by rw [hR]; exact ⟨Nat.le_of_ble_eq_true rfl, Nat.le_of_ble_eq_true rfl⟩) (Nat.le_trans hd (by decide)) ⟨hc, hs⟩ dX7_drop_27 h)) (Z_ne_F X dX7_drop_30 (by decide)))) (CE_1 (XE_2 (pB := pI) wL (XE_2 wR (XE_1 (L_aload_n (r := (some this)) 2 X dX7_drop_33 rfl rfl) (O_gr (c := 8) (j := 23) X rfl inW7 (by decide) fl_X7_75 rfl dX7_drop_34)) (XE_2 wR (XE_1 (L_aload_n (r := (some this)) 2 X dX7_drop_37 rfl rfl) (O_gr (c := 8) (j := 5) X rfl inW7 (by decide) fl_X7_22 rfl dX7_drop_38)) (L_iload_n (x := its_) 3 X dX7_drop_41 rfl rfl) (O_ai X dX7_drop_42)) (O_al X dX7_drop_43)) (L_iload_n (x := when_) 4 X dX7_drop_44 rfl rfl) (fun v0 v1 st mm a b hd hc hs h => g_callS (st := st) X hT htr (M_X7_has v0 v1) lk_X7_has st_X7_has ml_X7_180 rfl (by rw [hR]; exact ⟨Nat.le_of_ble_eq_true rfl, Nat.le_of_ble_eq_true rfl⟩) (Nat.le_trans hd (by decide)) ⟨hc, hs⟩ dX7_drop_45 h)) (Z_ne_F X dX7_drop_48 (by decide)))) (S_b1 X dX7_drop_51 dX7_drop_52 (by decide)) (S_b0 X dX7_drop_55)) (fun v0 v1 v2 v3 st mm a b hd hc hs h => g_callVo (st := st) (cI := 8) X hT htr rfl (fun q => M_X7_goes q v1 v2 v3) lk_X7_goes im_X7_goes se_X7_goes ml_X7_153 rfl (by rw [hR]; exact ⟨Nat.le_of_ble_eq_true rfl, Nat.le_of_ble_eq_true rfl⟩) (Nat.le_trans hd (by decide)) ⟨hc, hs⟩ dX7_drop_56 h)) (Z_ne_T X dX7_drop_59 (by decide))))
  (SB_retI X C hr dX7_drop_63 (L_iconst (v := 0) X dX7_drop_62 (by decide)))
  (SB_let (XE_2 (pB := pI) wR (L_aload_n (r := (some this)) 2 X dX7_drop_64 rfl rfl) (L_iload_n (x := its_) 3 X dX7_drop_65 rfl rfl) (fun v0 v1 st mm a b hd hc hs h => g_callVo (st := st) (cI := 8) X hT htr rfl (fun q => M_X7_next q v1) lk_X7_next im_X7_next se_X7_next ml_X7_217 rfl (by rw [hR]; exact ⟨Nat.le_of_ble_eq_true rfl, Nat.le_of_ble_eq_true rfl⟩) (Nat.le_trans hd (by decide)) ⟨hc, hs⟩ dX7_drop_66 h)) (S_istore (ev := fun to_32 => [(5, .int to_32), (4, .int can_5), (3, .int is_3), (0, va_rf (some this)), (1, .int its_), (2, .int when_)]) X dX7_drop_69 (by rw [hN]; decide) (fun _ => rfl)) fun to_32 =>
  (SB_do (XE_dup2 wL (XE_1 (L_aload_n (r := (some this)) 3 X dX7_drop_71 rfl rfl) (O_gr (c := 8) (j := 21) X rfl inW7 (by decide) fl_X7_69 rfl dX7_drop_72)) (L_iload (x := to_32) 0 X dX7_drop_75 rfl) (S_dup2 X dX7_drop_77) (O_al X dX7_drop_78) (XE_2 wL (L_lconst (v := 1) X dX7_drop_79 (by decide)) (L_iload_n (x := when_) 5 X dX7_drop_80 rfl rfl) (O_lshl X dX7_drop_81)) (O_lor X dX7_drop_82) (O_sal X dX7_drop_83))
  (SB_do (XE_dup2 wL (XE_1 (L_aload_n (r := (some this)) 3 X dX7_drop_84 rfl rfl) (O_gr (c := 8) (j := 20) X rfl inW7 (by decide) fl_X7_65 rfl dX7_drop_85)) (L_iload (x := to_32) 0 X dX7_drop_88 rfl) (S_dup2 X dX7_drop_90) (O_al X dX7_drop_91) (XE_2 wL (XE_2 wL (L_lconst (v := 1) X dX7_drop_92 (by decide)) (L_iload_n (x := when_) 5 X dX7_drop_93 rfl rfl) (O_lshl X dX7_drop_94)) (L_ldc2 X dX7_drop_95 kl_X7_224) (O_lxor X dX7_drop_98)) (O_land X dX7_drop_99) (O_sal X dX7_drop_100))
  (SB_do (XE_dup2 wL (XE_1 (L_aload_n (r := (some this)) 3 X dX7_drop_101 rfl rfl) (O_gr (c := 8) (j := 22) X rfl inW7 (by decide) fl_X7_72 rfl dX7_drop_102)) (L_iload (x := to_32) 0 X dX7_drop_105 rfl) (S_dup2 X dX7_drop_107) (O_al X dX7_drop_108) (XE_2 wL (XE_2 wL (L_lconst (v := 1) X dX7_drop_109 (by decide)) (L_iload_n (x := when_) 5 X dX7_drop_110 rfl rfl) (O_lshl X dX7_drop_111)) (L_ldc2 X dX7_drop_112 kl_X7_224) (O_lxor X dX7_drop_115)) (O_land X dX7_drop_116) (O_sal X dX7_drop_117))
  (SB_retI X C hr dX7_drop_125 (XE_3 (pB := pI) wR wI (L_aload_n (r := (some this)) 3 X dX7_drop_118 rfl rfl) (L_iload_n (x := its_) 4 X dX7_drop_119 rfl rfl) (L_iload (x := to_32) 0 X dX7_drop_120 rfl) (fun v0 v1 v2 st mm a b hd hc hs h => g_callVo (st := st) (cI := 8) X hT htr rfl (fun q => M_X7_holds q v1 v2) lk_X7_holds im_X7_holds se_X7_holds ml_X7_208 rfl (by rw [hR]; exact ⟨Nat.le_of_ble_eq_true rfl, Nat.le_of_ble_eq_true rfl⟩) (Nat.le_trans hd (by decide)) ⟨hc, hs⟩ dX7_drop_122 h)))))))))) h (by rw [hR]; decide) (by rw [hR]; decide)
theorem dX7_add_0 : decode cX7_add 0 = .ok (.aload_n 0, 1) := by decide +kernel
theorem dX7_add_1 : decode cX7_add 1 = .ok (.iload_n 1, 1) := by decide +kernel
theorem dX7_add_2 : decode cX7_add 2 = .ok (.invokevirtual 211, 3) := by decide +kernel
theorem dX7_add_5 : decode cX7_add 5 = .ok (.istore_n 3, 1) := by decide +kernel
theorem dX7_add_6 : decode cX7_add 6 = .ok (.iload_n 2, 1) := by decide +kernel
theorem dX7_add_7 : decode cX7_add 7 = .ok (.invokestatic 157, 3) := by decide +kernel
theorem dX7_add_10 : decode cX7_add 10 = .ok (.istore 4, 2) := by decide +kernel
theorem dX7_add_12 : decode cX7_add 12 = .ok (.aload_n 0, 1) := by decide +kernel
theorem dX7_add_13 : decode cX7_add 13 = .ok (.iload_n 3, 1) := by decide +kernel
theorem dX7_add_14 : decode cX7_add 14 = .ok (.iload 4, 2) := by decide +kernel
theorem dX7_add_16 : decode cX7_add 16 = .ok (.iload_n 3, 1) := by decide +kernel
theorem dX7_add_17 : decode cX7_add 17 = .ok (.ifCond .eq 38, 3) := by decide +kernel
theorem dX7_add_20 : decode cX7_add 20 = .ok (.iload 4, 2) := by decide +kernel
theorem dX7_add_22 : decode cX7_add 22 = .ok (.ifCond .eq 33, 3) := by decide +kernel
theorem dX7_add_25 : decode cX7_add 25 = .ok (.aload_n 0, 1) := by decide +kernel
theorem dX7_add_26 : decode cX7_add 26 = .ok (.iload_n 1, 1) := by decide +kernel
theorem dX7_add_27 : decode cX7_add 27 = .ok (.invokevirtual 214, 3) := by decide +kernel
theorem dX7_add_30 : decode cX7_add 30 = .ok (.ifCond .eq 25, 3) := by decide +kernel
theorem dX7_add_33 : decode cX7_add 33 = .ok (.aload_n 0, 1) := by decide +kernel
theorem dX7_add_34 : decode cX7_add 34 = .ok (.getfield 75, 3) := by decide +kernel
theorem dX7_add_37 : decode cX7_add 37 = .ok (.aload_n 0, 1) := by decide +kernel
theorem dX7_add_38 : decode cX7_add 38 = .ok (.getfield 22, 3) := by decide +kernel
theorem dX7_add_41 : decode cX7_add 41 = .ok (.iload_n 1, 1) := by decide +kernel
theorem dX7_add_42 : decode cX7_add 42 = .ok (.iaload, 1) := by decide +kernel
theorem dX7_add_43 : decode cX7_add 43 = .ok (.laload, 1) := by decide +kernel
theorem dX7_add_44 : decode cX7_add 44 = .ok (.iload_n 2, 1) := by decide +kernel
theorem dX7_add_45 : decode cX7_add 45 = .ok (.invokestatic 180, 3) := by decide +kernel
theorem dX7_add_48 : decode cX7_add 48 = .ok (.ifCond .ne 7, 3) := by decide +kernel
theorem dX7_add_51 : decode cX7_add 51 = .ok (.iconst 1, 1) := by decide +kernel
theorem dX7_add_52 : decode cX7_add 52 = .ok (.goto 4, 3) := by decide +kernel
theorem dX7_add_55 : decode cX7_add 55 = .ok (.iconst 0, 1) := by decide +kernel
theorem dX7_add_56 : decode cX7_add 56 = .ok (.invokevirtual 153, 3) := by decide +kernel
theorem dX7_add_59 : decode cX7_add 59 = .ok (.ifCond .ne 5, 3) := by decide +kernel
theorem dX7_add_62 : decode cX7_add 62 = .ok (.iconst 0, 1) := by decide +kernel
theorem dX7_add_63 : decode cX7_add 63 = .ok (.ireturn, 1) := by decide +kernel
theorem dX7_add_64 : decode cX7_add 64 = .ok (.aload_n 0, 1) := by decide +kernel
theorem dX7_add_65 : decode cX7_add 65 = .ok (.iload_n 1, 1) := by decide +kernel
theorem dX7_add_66 : decode cX7_add 66 = .ok (.invokevirtual 217, 3) := by decide +kernel
theorem dX7_add_69 : decode cX7_add 69 = .ok (.istore 5, 2) := by decide +kernel
theorem dX7_add_71 : decode cX7_add 71 = .ok (.aload_n 0, 1) := by decide +kernel
theorem dX7_add_72 : decode cX7_add 72 = .ok (.getfield 65, 3) := by decide +kernel
theorem dX7_add_75 : decode cX7_add 75 = .ok (.iload 5, 2) := by decide +kernel
theorem dX7_add_77 : decode cX7_add 77 = .ok (.dup2, 1) := by decide +kernel
theorem dX7_add_78 : decode cX7_add 78 = .ok (.laload, 1) := by decide +kernel
theorem dX7_add_79 : decode cX7_add 79 = .ok (.lconst 1, 1) := by decide +kernel
theorem dX7_add_80 : decode cX7_add 80 = .ok (.iload_n 2, 1) := by decide +kernel
theorem dX7_add_81 : decode cX7_add 81 = .ok (.lshl, 1) := by decide +kernel
theorem dX7_add_82 : decode cX7_add 82 = .ok (.lor, 1) := by decide +kernel
theorem dX7_add_83 : decode cX7_add 83 = .ok (.lastore, 1) := by decide +kernel
theorem dX7_add_84 : decode cX7_add 84 = .ok (.aload_n 0, 1) := by decide +kernel
theorem dX7_add_85 : decode cX7_add 85 = .ok (.getfield 69, 3) := by decide +kernel
theorem dX7_add_88 : decode cX7_add 88 = .ok (.iload 5, 2) := by decide +kernel
theorem dX7_add_90 : decode cX7_add 90 = .ok (.dup2, 1) := by decide +kernel
theorem dX7_add_91 : decode cX7_add 91 = .ok (.laload, 1) := by decide +kernel
theorem dX7_add_92 : decode cX7_add 92 = .ok (.lconst 1, 1) := by decide +kernel
theorem dX7_add_93 : decode cX7_add 93 = .ok (.iload_n 2, 1) := by decide +kernel
theorem dX7_add_94 : decode cX7_add 94 = .ok (.lshl, 1) := by decide +kernel
theorem dX7_add_95 : decode cX7_add 95 = .ok (.ldc2_w 224, 3) := by decide +kernel
theorem dX7_add_98 : decode cX7_add 98 = .ok (.lxor, 1) := by decide +kernel
theorem dX7_add_99 : decode cX7_add 99 = .ok (.land, 1) := by decide +kernel
theorem dX7_add_100 : decode cX7_add 100 = .ok (.lastore, 1) := by decide +kernel
theorem dX7_add_101 : decode cX7_add 101 = .ok (.aload_n 0, 1) := by decide +kernel
theorem dX7_add_102 : decode cX7_add 102 = .ok (.iload 5, 2) := by decide +kernel
theorem dX7_add_104 : decode cX7_add 104 = .ok (.iload_n 2, 1) := by decide +kernel
theorem dX7_add_105 : decode cX7_add 105 = .ok (.aload_n 0, 1) := by decide +kernel
theorem dX7_add_106 : decode cX7_add 106 = .ok (.iload 5, 2) := by decide +kernel
theorem dX7_add_108 : decode cX7_add 108 = .ok (.iload_n 2, 1) := by decide +kernel
theorem dX7_add_109 : decode cX7_add 109 = .ok (.invokevirtual 195, 3) := by decide +kernel
theorem dX7_add_112 : decode cX7_add 112 = .ok (.invokevirtual 198, 3) := by decide +kernel
theorem dX7_add_115 : decode cX7_add 115 = .ok (.aload_n 0, 1) := by decide +kernel
theorem dX7_add_116 : decode cX7_add 116 = .ok (.iload_n 1, 1) := by decide +kernel
theorem dX7_add_117 : decode cX7_add 117 = .ok (.iload 5, 2) := by decide +kernel
theorem dX7_add_119 : decode cX7_add 119 = .ok (.invokevirtual 208, 3) := by decide +kernel
theorem dX7_add_122 : decode cX7_add 122 = .ok (.ireturn, 1) := by decide +kernel
theorem lk_X7_add : LK yX7_add cX7_add 6 (some .int) 2 := ⟨qW_at 1561 (by decide +kernel) rfl, qW_at 78 (by decide +kernel) rfl, by decide, by decide, by decide +kernel⟩
theorem im_X7_add : Cond.instanceMethod yX7_add ∈ qW := qW_at 1559 (by decide +kernel) rfl
theorem se_X7_add : Cond.selects RX7 yX7_add yX7_add ∈ qW := qW_at 1560 (by decide +kernel) rfl
def F_X7_add (this : Nat) (its_ : Int32) (when_ : Int32) : QX Int32 :=
  (xb (xb (xp (some this)) fun v1 => xb (xp its_) fun v2 => xo 8 v1 fun q => F_X7_isMeeting q v2) fun is_3 =>
  (xb (xb (xp when_) fun v4 => F_X7_isDay v4) fun can_5 =>
  (xb (xb (xb (xb (xp (some this)) fun v25 => xb (xp is_3) fun v26 => xb (xp can_5) fun v27 => xb (xb (xb (xb (xb (xb (xp is_3) fun v6 => xp (decide (¬ v6 = 0))) fun v8 => if v8 then (xb (xp can_5) fun v7 => xp (decide (¬ v7 = 0))) else xp false) fun v12 => if v12 then (xb (xb (xp (some this)) fun v9 => xb (xp its_) fun v10 => xo 8 v9 fun q => F_X7_isHeld q v10) fun v11 => xp (decide (¬ v11 = 0))) else xp false) fun v23 => if v23 then (xb (xb (xb (xb (xb (xp (some this)) fun v13 => xgr 8 23 v13) fun v17 => xb (xb (xb (xp (some this)) fun v14 => xgr 8 5 v14) fun v15 => xb (xp its_) fun v16 => xai 0 v15 v16) fun v18 => xal v17 v18) fun v19 => xb (xp when_) fun v20 => F_X7_has v19 v20) fun v21 => xp (decide (¬ v21 = 0))) fun v22 => xp (!v22)) else xp false) fun v24 => xp (b2i v24)) fun v28 => xo 8 v25 fun q => F_X7_goes q v26 v27 v28) fun v29 => xp (decide (¬ v29 = 0))) fun v30 => xp (!v30)) fun v62 => if v62 then (xp (0 : Int32)) else
  (xb (xb (xp (some this)) fun v31 => xb (xp its_) fun v32 => xo 8 v31 fun q => F_X7_next q v32) fun to_33 =>
  (xb (xb (xb (xp (some this)) fun v34 => xgr 8 20 v34) fun v37 => xb (xp to_33) fun v38 => xb (xal v37 v38) fun v39 => xb (xb (xp (1 : Int64)) fun v35 => xb (xp when_) fun v36 => (xp (v35 <<< (v36.toInt64 &&& 63)))) fun v40 => xb (xp (v39 ||| v40)) fun v41 => xsal v37 v38 v41) fun _ =>
  (xb (xb (xb (xp (some this)) fun v42 => xgr 8 21 v42) fun v47 => xb (xp to_33) fun v48 => xb (xal v47 v48) fun v49 => xb (xb (xb (xp (1 : Int64)) fun v43 => xb (xp when_) fun v44 => (xp (v43 <<< (v44.toInt64 &&& 63)))) fun v45 => xb (xp (-1 : Int64)) fun v46 => xp (v45 ^^^ v46)) fun v50 => xb (xp (v49 &&& v50)) fun v51 => xsal v47 v48 v51) fun _ =>
  (xb (xb (xp (some this)) fun v55 => xb (xp to_33) fun v56 => xb (xp when_) fun v57 => xb (xb (xp (some this)) fun v52 => xb (xp to_33) fun v53 => xb (xp when_) fun v54 => xo 8 v52 fun q => F_X7_goal q v53 v54) fun v58 => xo 8 v55 fun q => F_X7_stands q v56 v57 v58) fun _ =>
  (xb (xp (some this)) fun v59 => xb (xp its_) fun v60 => xb (xp to_33) fun v61 => xo 8 v59 fun q => F_X7_holds q v60 v61))))))))
set_option maxRecDepth 100000 in
set_option maxHeartbeats 4000000 in
theorem M_X7_add (this : Nat) (its_ : Int32) (when_ : Int32) : MM yX7_add cX7_add 6 (some .int) 4 91 0 0 encI [.ref this, .int its_, .int when_] (F_X7_add this its_ when_) := by
  refine MM_of (env0 := [(0, va_rf (some this)), (1, .int its_), (2, .int when_)]) (by decide) (by exact Nat.le_of_ble_eq_true rfl) (by rfl) (fun k mm res X C hR hN hr hname h => ?_)
  have X : CX k cX7_add RX7 := X
  have hT : TH k (fun e m' => res = (.error e, m')) := TH_of C
  have htr := C.2.2.2.1
  unfold F_X7_add at h
  exact SB_go (T := fun e m' => res = (.error e, m')) (RET := fun v m' => res = (.ok v, m')) (SB_let (XE_2 (pB := pI) wR (L_aload_n (r := (some this)) 0 X dX7_add_0 rfl rfl) (L_iload_n (x := its_) 1 X dX7_add_1 rfl rfl) (fun v0 v1 st mm a b hd hc hs h => g_callVo (st := st) (cI := 8) X hT htr rfl (fun q => M_X7_isMeeting q v1) lk_X7_isMeeting im_X7_isMeeting se_X7_isMeeting ml_X7_211 rfl (by rw [hR]; exact ⟨Nat.le_of_ble_eq_true rfl, Nat.le_of_ble_eq_true rfl⟩) (Nat.le_trans hd (by decide)) ⟨hc, hs⟩ dX7_add_2 h)) (S_istore_n (ev := fun is_3 => [(3, .int is_3), (0, va_rf (some this)), (1, .int its_), (2, .int when_)]) X dX7_add_5 rfl (by rw [hN]; decide) (fun _ => rfl)) fun is_3 =>
  (SB_let (XE_1 (pB := pI)  (L_iload_n (x := when_) 3 X dX7_add_6 rfl rfl) (fun v0 st mm a b hd hc hs h => g_callS (st := st) X hT htr (M_X7_isDay v0) lk_X7_isDay st_X7_isDay ml_X7_157 rfl (by rw [hR]; exact ⟨Nat.le_of_ble_eq_true rfl, Nat.le_of_ble_eq_true rfl⟩) (Nat.le_trans hd (by decide)) ⟨hc, hs⟩ dX7_add_7 h)) (S_istore (ev := fun can_5 => [(4, .int can_5), (3, .int is_3), (0, va_rf (some this)), (1, .int its_), (2, .int when_)]) X dX7_add_10 (by rw [hN]; decide) (fun _ => rfl)) fun can_5 =>
  (SB_if (CE_not (CE_1 (XE_4 (pB := pI) wR wI wI (L_aload_n (r := (some this)) 2 X dX7_add_12 rfl rfl) (L_iload_n (x := is_3) 1 X dX7_add_13 rfl rfl) (L_iload (x := can_5) 0 X dX7_add_14 rfl) (XE_b2i (CE_and (CE_and (CE_and (CE_1 (L_iload_n (x := is_3) 1 X dX7_add_16 rfl rfl) (Z_ne_F X dX7_add_17 (by decide))) (CE_1 (L_iload (x := can_5) 0 X dX7_add_20 rfl) (Z_ne_F X dX7_add_22 (by decide)))) (CE_1 (XE_2 (pB := pI) wR (L_aload_n (r := (some this)) 2 X dX7_add_25 rfl rfl) (L_iload_n (x := its_) 3 X dX7_add_26 rfl rfl) (fun v0 v1 st mm a b hd hc hs h => g_callVo (st := st) (cI := 8) X hT htr rfl (fun q => M_X7_isHeld q v1) lk_X7_isHeld im_X7_isHeld se_X7_isHeld ml_X7_214 rfl (by rw [hR]; exact ⟨Nat.le_of_ble_eq_true rfl, Nat.le_of_ble_eq_true rfl⟩) (Nat.le_trans hd (by decide)) ⟨hc, hs⟩ dX7_add_27 h)) (Z_ne_F X dX7_add_30 (by decide)))) (CE_not (CE_1 (XE_2 (pB := pI) wL (XE_2 wR (XE_1 (L_aload_n (r := (some this)) 2 X dX7_add_33 rfl rfl) (O_gr (c := 8) (j := 23) X rfl inW7 (by decide) fl_X7_75 rfl dX7_add_34)) (XE_2 wR (XE_1 (L_aload_n (r := (some this)) 2 X dX7_add_37 rfl rfl) (O_gr (c := 8) (j := 5) X rfl inW7 (by decide) fl_X7_22 rfl dX7_add_38)) (L_iload_n (x := its_) 3 X dX7_add_41 rfl rfl) (O_ai X dX7_add_42)) (O_al X dX7_add_43)) (L_iload_n (x := when_) 4 X dX7_add_44 rfl rfl) (fun v0 v1 st mm a b hd hc hs h => g_callS (st := st) X hT htr (M_X7_has v0 v1) lk_X7_has st_X7_has ml_X7_180 rfl (by rw [hR]; exact ⟨Nat.le_of_ble_eq_true rfl, Nat.le_of_ble_eq_true rfl⟩) (Nat.le_trans hd (by decide)) ⟨hc, hs⟩ dX7_add_45 h)) (Z_ne_T X dX7_add_48 (by decide))))) (S_b1 X dX7_add_51 dX7_add_52 (by decide)) (S_b0 X dX7_add_55)) (fun v0 v1 v2 v3 st mm a b hd hc hs h => g_callVo (st := st) (cI := 8) X hT htr rfl (fun q => M_X7_goes q v1 v2 v3) lk_X7_goes im_X7_goes se_X7_goes ml_X7_153 rfl (by rw [hR]; exact ⟨Nat.le_of_ble_eq_true rfl, Nat.le_of_ble_eq_true rfl⟩) (Nat.le_trans hd (by decide)) ⟨hc, hs⟩ dX7_add_56 h)) (Z_ne_T X dX7_add_59 (by decide))))
  (SB_retI X C hr dX7_add_63 (L_iconst (v := 0) X dX7_add_62 (by decide)))
  (SB_let (XE_2 (pB := pI) wR (L_aload_n (r := (some this)) 2 X dX7_add_64 rfl rfl) (L_iload_n (x := its_) 3 X dX7_add_65 rfl rfl) (fun v0 v1 st mm a b hd hc hs h => g_callVo (st := st) (cI := 8) X hT htr rfl (fun q => M_X7_next q v1) lk_X7_next im_X7_next se_X7_next ml_X7_217 rfl (by rw [hR]; exact ⟨Nat.le_of_ble_eq_true rfl, Nat.le_of_ble_eq_true rfl⟩) (Nat.le_trans hd (by decide)) ⟨hc, hs⟩ dX7_add_66 h)) (S_istore (ev := fun to_33 => [(5, .int to_33), (4, .int can_5), (3, .int is_3), (0, va_rf (some this)), (1, .int its_), (2, .int when_)]) X dX7_add_69 (by rw [hN]; decide) (fun _ => rfl)) fun to_33 =>
  (SB_do (XE_dup2 wL (XE_1 (L_aload_n (r := (some this)) 3 X dX7_add_71 rfl rfl) (O_gr (c := 8) (j := 20) X rfl inW7 (by decide) fl_X7_65 rfl dX7_add_72)) (L_iload (x := to_33) 0 X dX7_add_75 rfl) (S_dup2 X dX7_add_77) (O_al X dX7_add_78) (XE_2 wL (L_lconst (v := 1) X dX7_add_79 (by decide)) (L_iload_n (x := when_) 5 X dX7_add_80 rfl rfl) (O_lshl X dX7_add_81)) (O_lor X dX7_add_82) (O_sal X dX7_add_83))
  (SB_do (XE_dup2 wL (XE_1 (L_aload_n (r := (some this)) 3 X dX7_add_84 rfl rfl) (O_gr (c := 8) (j := 21) X rfl inW7 (by decide) fl_X7_69 rfl dX7_add_85)) (L_iload (x := to_33) 0 X dX7_add_88 rfl) (S_dup2 X dX7_add_90) (O_al X dX7_add_91) (XE_2 wL (XE_2 wL (L_lconst (v := 1) X dX7_add_92 (by decide)) (L_iload_n (x := when_) 5 X dX7_add_93 rfl rfl) (O_lshl X dX7_add_94)) (L_ldc2 X dX7_add_95 kl_X7_224) (O_lxor X dX7_add_98)) (O_land X dX7_add_99) (O_sal X dX7_add_100))
  (SB_do (XE_4 (pB := pU) wR wI wI (L_aload_n (r := (some this)) 3 X dX7_add_101 rfl rfl) (L_iload (x := to_33) 0 X dX7_add_102 rfl) (L_iload_n (x := when_) 5 X dX7_add_104 rfl rfl) (XE_3 (pB := pI) wR wI (L_aload_n (r := (some this)) 3 X dX7_add_105 rfl rfl) (L_iload (x := to_33) 0 X dX7_add_106 rfl) (L_iload_n (x := when_) 5 X dX7_add_108 rfl rfl) (fun v0 v1 v2 st mm a b hd hc hs h => g_callVo (st := st) (cI := 8) X hT htr rfl (fun q => M_X7_goal q v1 v2) lk_X7_goal im_X7_goal se_X7_goal ml_X7_195 rfl (by rw [hR]; exact ⟨Nat.le_of_ble_eq_true rfl, Nat.le_of_ble_eq_true rfl⟩) (Nat.le_trans hd (by decide)) ⟨hc, hs⟩ dX7_add_109 h)) (fun v0 v1 v2 v3 st mm a b hd hc hs h => g_callVo (st := st) (cI := 8) X hT htr rfl (fun q => M_X7_stands q v1 v2 v3) lk_X7_stands im_X7_stands se_X7_stands ml_X7_198 rfl (by rw [hR]; exact ⟨Nat.le_of_ble_eq_true rfl, Nat.le_of_ble_eq_true rfl⟩) (Nat.le_trans hd (by decide)) ⟨hc, hs⟩ dX7_add_112 h))
  (SB_retI X C hr dX7_add_122 (XE_3 (pB := pI) wR wI (L_aload_n (r := (some this)) 3 X dX7_add_115 rfl rfl) (L_iload_n (x := its_) 4 X dX7_add_116 rfl rfl) (L_iload (x := to_33) 0 X dX7_add_117 rfl) (fun v0 v1 v2 st mm a b hd hc hs h => g_callVo (st := st) (cI := 8) X hT htr rfl (fun q => M_X7_holds q v1 v2) lk_X7_holds im_X7_holds se_X7_holds ml_X7_208 rfl (by rw [hR]; exact ⟨Nat.le_of_ble_eq_true rfl, Nat.le_of_ble_eq_true rfl⟩) (Nat.le_trans hd (by decide)) ⟨hc, hs⟩ dX7_add_119 h)))))))))) h (by rw [hR]; decide) (by rw [hR]; decide)
theorem dX7_moves_0 : decode cX7_moves 0 = .ok (.aload_n 0, 1) := by decide +kernel
theorem dX7_moves_1 : decode cX7_moves 1 = .ok (.iload_n 1, 1) := by decide +kernel
theorem dX7_moves_2 : decode cX7_moves 2 = .ok (.invokevirtual 217, 3) := by decide +kernel
theorem dX7_moves_5 : decode cX7_moves 5 = .ok (.istore 4, 2) := by decide +kernel
theorem dX7_moves_7 : decode cX7_moves 7 = .ok (.aload_n 0, 1) := by decide +kernel
theorem dX7_moves_8 : decode cX7_moves 8 = .ok (.getfield 72, 3) := by decide +kernel
theorem dX7_moves_11 : decode cX7_moves 11 = .ok (.iload 4, 2) := by decide +kernel
theorem dX7_moves_13 : decode cX7_moves 13 = .ok (.dup2, 1) := by decide +kernel
theorem dX7_moves_14 : decode cX7_moves 14 = .ok (.laload, 1) := by decide +kernel
theorem dX7_moves_15 : decode cX7_moves 15 = .ok (.lconst 1, 1) := by decide +kernel
theorem dX7_moves_16 : decode cX7_moves 16 = .ok (.iload_n 2, 1) := by decide +kernel
theorem dX7_moves_17 : decode cX7_moves 17 = .ok (.lshl, 1) := by decide +kernel
theorem dX7_moves_18 : decode cX7_moves 18 = .ok (.lor, 1) := by decide +kernel
theorem dX7_moves_19 : decode cX7_moves 19 = .ok (.lastore, 1) := by decide +kernel
theorem dX7_moves_20 : decode cX7_moves 20 = .ok (.aload_n 0, 1) := by decide +kernel
theorem dX7_moves_21 : decode cX7_moves 21 = .ok (.iload 4, 2) := by decide +kernel
theorem dX7_moves_23 : decode cX7_moves 23 = .ok (.iload_n 2, 1) := by decide +kernel
theorem dX7_moves_24 : decode cX7_moves 24 = .ok (.iload_n 3, 1) := by decide +kernel
theorem dX7_moves_25 : decode cX7_moves 25 = .ok (.invokevirtual 198, 3) := by decide +kernel
theorem dX7_moves_28 : decode cX7_moves 28 = .ok (.aload_n 0, 1) := by decide +kernel
theorem dX7_moves_29 : decode cX7_moves 29 = .ok (.iload_n 1, 1) := by decide +kernel
theorem dX7_moves_30 : decode cX7_moves 30 = .ok (.iload 4, 2) := by decide +kernel
theorem dX7_moves_32 : decode cX7_moves 32 = .ok (.invokevirtual 208, 3) := by decide +kernel
theorem dX7_moves_35 : decode cX7_moves 35 = .ok (.ireturn, 1) := by decide +kernel
theorem lk_X7_moves : LK yX7_moves cX7_moves 5 (some .int) 3 := ⟨qW_at 1572 (by decide +kernel) rfl, qW_at 78 (by decide +kernel) rfl, by decide, by decide, by decide +kernel⟩
theorem im_X7_moves : Cond.instanceMethod yX7_moves ∈ qW := qW_at 1571 (by decide +kernel) rfl
theorem se_X7_moves : Cond.selects RX7 yX7_moves yX7_moves ∈ qW := qW_at 43 (by decide +kernel) rfl
def F_X7_moves (this : Nat) (its_ : Int32) (when_ : Int32) (clock_ : Int32) : QX Int32 :=
  (xb (xb (xp (some this)) fun v1 => xb (xp its_) fun v2 => xo 8 v1 fun q => F_X7_next q v2) fun to_3 =>
  (xb (xb (xb (xp (some this)) fun v4 => xgr 8 22 v4) fun v7 => xb (xp to_3) fun v8 => xb (xal v7 v8) fun v9 => xb (xb (xp (1 : Int64)) fun v5 => xb (xp when_) fun v6 => (xp (v5 <<< (v6.toInt64 &&& 63)))) fun v10 => xb (xp (v9 ||| v10)) fun v11 => xsal v7 v8 v11) fun _ =>
  (xb (xb (xp (some this)) fun v12 => xb (xp to_3) fun v13 => xb (xp when_) fun v14 => xb (xp clock_) fun v15 => xo 8 v12 fun q => F_X7_stands q v13 v14 v15) fun _ =>
  (xb (xp (some this)) fun v16 => xb (xp its_) fun v17 => xb (xp to_3) fun v18 => xo 8 v16 fun q => F_X7_holds q v17 v18))))
set_option maxRecDepth 100000 in
set_option maxHeartbeats 4000000 in
theorem M_X7_moves (this : Nat) (its_ : Int32) (when_ : Int32) (clock_ : Int32) : MM yX7_moves cX7_moves 5 (some .int) 4 91 0 0 encI [.ref this, .int its_, .int when_, .int clock_] (F_X7_moves this its_ when_ clock_) := by
  refine MM_of (env0 := [(0, va_rf (some this)), (1, .int its_), (2, .int when_), (3, .int clock_)]) (by decide) (by exact Nat.le_of_ble_eq_true rfl) (by rfl) (fun k mm res X C hR hN hr hname h => ?_)
  have X : CX k cX7_moves RX7 := X
  have hT : TH k (fun e m' => res = (.error e, m')) := TH_of C
  have htr := C.2.2.2.1
  unfold F_X7_moves at h
  exact SB_go (T := fun e m' => res = (.error e, m')) (RET := fun v m' => res = (.ok v, m')) (SB_let (XE_2 (pB := pI) wR (L_aload_n (r := (some this)) 0 X dX7_moves_0 rfl rfl) (L_iload_n (x := its_) 1 X dX7_moves_1 rfl rfl) (fun v0 v1 st mm a b hd hc hs h => g_callVo (st := st) (cI := 8) X hT htr rfl (fun q => M_X7_next q v1) lk_X7_next im_X7_next se_X7_next ml_X7_217 rfl (by rw [hR]; exact ⟨Nat.le_of_ble_eq_true rfl, Nat.le_of_ble_eq_true rfl⟩) (Nat.le_trans hd (by decide)) ⟨hc, hs⟩ dX7_moves_2 h)) (S_istore (ev := fun to_3 => [(4, .int to_3), (0, va_rf (some this)), (1, .int its_), (2, .int when_), (3, .int clock_)]) X dX7_moves_5 (by rw [hN]; decide) (fun _ => rfl)) fun to_3 =>
  (SB_do (XE_dup2 wL (XE_1 (L_aload_n (r := (some this)) 1 X dX7_moves_7 rfl rfl) (O_gr (c := 8) (j := 22) X rfl inW7 (by decide) fl_X7_72 rfl dX7_moves_8)) (L_iload (x := to_3) 0 X dX7_moves_11 rfl) (S_dup2 X dX7_moves_13) (O_al X dX7_moves_14) (XE_2 wL (L_lconst (v := 1) X dX7_moves_15 (by decide)) (L_iload_n (x := when_) 3 X dX7_moves_16 rfl rfl) (O_lshl X dX7_moves_17)) (O_lor X dX7_moves_18) (O_sal X dX7_moves_19))
  (SB_do (XE_4 (pB := pU) wR wI wI (L_aload_n (r := (some this)) 1 X dX7_moves_20 rfl rfl) (L_iload (x := to_3) 0 X dX7_moves_21 rfl) (L_iload_n (x := when_) 3 X dX7_moves_23 rfl rfl) (L_iload_n (x := clock_) 4 X dX7_moves_24 rfl rfl) (fun v0 v1 v2 v3 st mm a b hd hc hs h => g_callVo (st := st) (cI := 8) X hT htr rfl (fun q => M_X7_stands q v1 v2 v3) lk_X7_stands im_X7_stands se_X7_stands ml_X7_198 rfl (by rw [hR]; exact ⟨Nat.le_of_ble_eq_true rfl, Nat.le_of_ble_eq_true rfl⟩) (Nat.le_trans hd (by decide)) ⟨hc, hs⟩ dX7_moves_25 h))
  (SB_retI X C hr dX7_moves_35 (XE_3 (pB := pI) wR wI (L_aload_n (r := (some this)) 1 X dX7_moves_28 rfl rfl) (L_iload_n (x := its_) 2 X dX7_moves_29 rfl rfl) (L_iload (x := to_3) 0 X dX7_moves_30 rfl) (fun v0 v1 v2 st mm a b hd hc hs h => g_callVo (st := st) (cI := 8) X hT htr rfl (fun q => M_X7_holds q v1 v2) lk_X7_holds im_X7_holds se_X7_holds ml_X7_208 rfl (by rw [hR]; exact ⟨Nat.le_of_ble_eq_true rfl, Nat.le_of_ble_eq_true rfl⟩) (Nat.le_trans hd (by decide)) ⟨hc, hs⟩ dX7_moves_32 h)))))) h (by rw [hR]; decide) (by rw [hR]; decide)
theorem dX7_isClock_0 : decode cX7_isClock 0 = .ok (.iload_n 0, 1) := by decide +kernel
theorem dX7_isClock_1 : decode cX7_isClock 1 = .ok (.iconst 0, 1) := by decide +kernel
theorem dX7_isClock_2 : decode cX7_isClock 2 = .ok (.sipush 1439, 3) := by decide +kernel
theorem dX7_isClock_5 : decode cX7_isClock 5 = .ok (.invokestatic 139, 3) := by decide +kernel
theorem dX7_isClock_8 : decode cX7_isClock 8 = .ok (.ireturn, 1) := by decide +kernel
theorem lk_X7_isClock : LK yX7_isClock cX7_isClock 1 (some .boolean) 1 := ⟨qW_at 1568 (by decide +kernel) rfl, qW_at 78 (by decide +kernel) rfl, by decide, by decide, by decide +kernel⟩
theorem st_X7_isClock : Cond.static yX7_isClock ∈ qW := qW_at 1567 (by decide +kernel) rfl
def F_X7_isClock (clock_ : Int32) : QX Int32 :=
  (xb (xb (xp clock_) fun v1 => xb (xp (0 : Int32)) fun v2 => xb (xp (1439 : Int32)) fun v3 => F_X7_in v1 v2 v3) xz)
set_option maxRecDepth 100000 in
set_option maxHeartbeats 4000000 in
theorem M_X7_isClock (clock_ : Int32) : MM yX7_isClock cX7_isClock 1 (some .boolean) 1 22 0 0 encI [.int clock_] (F_X7_isClock clock_) := by
  refine MM_of (env0 := [(0, .int clock_)]) (by decide) (by exact Nat.le_of_ble_eq_true rfl) (by rfl) (fun k mm res X C hR hN hr hname h => ?_)
  have X : CX k cX7_isClock RX7 := X
  have hT : TH k (fun e m' => res = (.error e, m')) := TH_of C
  have htr := C.2.2.2.1
  unfold F_X7_isClock at h
  exact SB_go (T := fun e m' => res = (.error e, m')) (RET := fun v m' => res = (.ok v, m')) (SB_retZ X C hr dX7_isClock_8 (XE_3 (pB := pI) wI wI (L_iload_n (x := clock_) 0 X dX7_isClock_0 rfl rfl) (L_iconst (v := 0) X dX7_isClock_1 (by decide)) (L_sipush (v := (1439)) X dX7_isClock_2 (by decide)) (fun v0 v1 v2 st mm a b hd hc hs h => g_callS (st := st) X hT htr (M_X7_in v0 v1 v2) lk_X7_in st_X7_in ml_X7_139 rfl (by rw [hR]; exact ⟨Nat.le_of_ble_eq_true rfl, Nat.le_of_ble_eq_true rfl⟩) (Nat.le_trans hd (by decide)) ⟨hc, hs⟩ dX7_isClock_5 h))) h (by rw [hR]; decide) (by rw [hR]; decide)
theorem dX7_move_0 : decode cX7_move 0 = .ok (.aload_n 0, 1) := by decide +kernel
theorem dX7_move_1 : decode cX7_move 1 = .ok (.iload_n 1, 1) := by decide +kernel
theorem dX7_move_2 : decode cX7_move 2 = .ok (.invokevirtual 211, 3) := by decide +kernel
theorem dX7_move_5 : decode cX7_move 5 = .ok (.istore 4, 2) := by decide +kernel
theorem dX7_move_7 : decode cX7_move 7 = .ok (.iload_n 2, 1) := by decide +kernel
theorem dX7_move_8 : decode cX7_move 8 = .ok (.invokestatic 157, 3) := by decide +kernel
theorem dX7_move_11 : decode cX7_move 11 = .ok (.ifCond .eq 14, 3) := by decide +kernel
theorem dX7_move_14 : decode cX7_move 14 = .ok (.iload_n 3, 1) := by decide +kernel
theorem dX7_move_15 : decode cX7_move 15 = .ok (.invokestatic 226, 3) := by decide +kernel
theorem dX7_move_18 : decode cX7_move 18 = .ok (.ifCond .eq 7, 3) := by decide +kernel
theorem dX7_move_21 : decode cX7_move 21 = .ok (.iconst 1, 1) := by decide +kernel
theorem dX7_move_22 : decode cX7_move 22 = .ok (.goto 4, 3) := by decide +kernel
theorem dX7_move_25 : decode cX7_move 25 = .ok (.iconst 0, 1) := by decide +kernel
theorem dX7_move_26 : decode cX7_move 26 = .ok (.istore 5, 2) := by decide +kernel
theorem dX7_move_28 : decode cX7_move 28 = .ok (.aload_n 0, 1) := by decide +kernel
theorem dX7_move_29 : decode cX7_move 29 = .ok (.iload 4, 2) := by decide +kernel
theorem dX7_move_31 : decode cX7_move 31 = .ok (.iload 5, 2) := by decide +kernel
theorem dX7_move_33 : decode cX7_move 33 = .ok (.iload 4, 2) := by decide +kernel
theorem dX7_move_35 : decode cX7_move 35 = .ok (.ifCond .eq 38, 3) := by decide +kernel
theorem dX7_move_38 : decode cX7_move 38 = .ok (.iload 5, 2) := by decide +kernel
theorem dX7_move_40 : decode cX7_move 40 = .ok (.ifCond .eq 33, 3) := by decide +kernel
theorem dX7_move_43 : decode cX7_move 43 = .ok (.aload_n 0, 1) := by decide +kernel
theorem dX7_move_44 : decode cX7_move 44 = .ok (.iload_n 1, 1) := by decide +kernel
theorem dX7_move_45 : decode cX7_move 45 = .ok (.invokevirtual 214, 3) := by decide +kernel
theorem dX7_move_48 : decode cX7_move 48 = .ok (.ifCond .eq 25, 3) := by decide +kernel
theorem dX7_move_51 : decode cX7_move 51 = .ok (.aload_n 0, 1) := by decide +kernel
theorem dX7_move_52 : decode cX7_move 52 = .ok (.getfield 75, 3) := by decide +kernel
theorem dX7_move_55 : decode cX7_move 55 = .ok (.aload_n 0, 1) := by decide +kernel
theorem dX7_move_56 : decode cX7_move 56 = .ok (.getfield 22, 3) := by decide +kernel
theorem dX7_move_59 : decode cX7_move 59 = .ok (.iload_n 1, 1) := by decide +kernel
theorem dX7_move_60 : decode cX7_move 60 = .ok (.iaload, 1) := by decide +kernel
theorem dX7_move_61 : decode cX7_move 61 = .ok (.laload, 1) := by decide +kernel
theorem dX7_move_62 : decode cX7_move 62 = .ok (.iload_n 2, 1) := by decide +kernel
theorem dX7_move_63 : decode cX7_move 63 = .ok (.invokestatic 180, 3) := by decide +kernel
theorem dX7_move_66 : decode cX7_move 66 = .ok (.ifCond .eq 7, 3) := by decide +kernel
theorem dX7_move_69 : decode cX7_move 69 = .ok (.iconst 1, 1) := by decide +kernel
theorem dX7_move_70 : decode cX7_move 70 = .ok (.goto 4, 3) := by decide +kernel
theorem dX7_move_73 : decode cX7_move 73 = .ok (.iconst 0, 1) := by decide +kernel
theorem dX7_move_74 : decode cX7_move 74 = .ok (.invokevirtual 153, 3) := by decide +kernel
theorem dX7_move_77 : decode cX7_move 77 = .ok (.ifCond .ne 5, 3) := by decide +kernel
theorem dX7_move_80 : decode cX7_move 80 = .ok (.iconst 0, 1) := by decide +kernel
theorem dX7_move_81 : decode cX7_move 81 = .ok (.ireturn, 1) := by decide +kernel
theorem dX7_move_82 : decode cX7_move 82 = .ok (.aload_n 0, 1) := by decide +kernel
theorem dX7_move_83 : decode cX7_move 83 = .ok (.iload_n 1, 1) := by decide +kernel
theorem dX7_move_84 : decode cX7_move 84 = .ok (.iload_n 2, 1) := by decide +kernel
theorem dX7_move_85 : decode cX7_move 85 = .ok (.iload_n 3, 1) := by decide +kernel
theorem dX7_move_86 : decode cX7_move 86 = .ok (.invokevirtual 229, 3) := by decide +kernel
theorem dX7_move_89 : decode cX7_move 89 = .ok (.ireturn, 1) := by decide +kernel
theorem lk_X7_move : LK yX7_move cX7_move 6 (some .int) 3 := ⟨qW_at 1565 (by decide +kernel) rfl, qW_at 78 (by decide +kernel) rfl, by decide, by decide, by decide +kernel⟩
theorem im_X7_move : Cond.instanceMethod yX7_move ∈ qW := qW_at 1563 (by decide +kernel) rfl
theorem se_X7_move : Cond.selects RX7 yX7_move yX7_move ∈ qW := qW_at 1564 (by decide +kernel) rfl
def F_X7_move (this : Nat) (its_ : Int32) (when_ : Int32) (clock_ : Int32) : QX Int32 :=
  (xb (xb (xp (some this)) fun v1 => xb (xp its_) fun v2 => xo 8 v1 fun q => F_X7_isMeeting q v2) fun is_3 =>
  (xb (xb (xb (xb (xb (xp when_) fun v4 => F_X7_isDay v4) fun v5 => xp (decide (¬ v5 = 0))) fun v8 => if v8 then (xb (xb (xp clock_) fun v6 => F_X7_isClock v6) fun v7 => xp (decide (¬ v7 = 0))) else xp false) fun v9 => xp (b2i v9)) fun can_10 =>
  (xb (xb (xb (xb (xp (some this)) fun v29 => xb (xp is_3) fun v30 => xb (xp can_10) fun v31 => xb (xb (xb (xb (xb (xb (xp is_3) fun v11 => xp (decide (¬ v11 = 0))) fun v13 => if v13 then (xb (xp can_10) fun v12 => xp (decide (¬ v12 = 0))) else xp false) fun v17 => if v17 then (xb (xb (xp (some this)) fun v14 => xb (xp its_) fun v15 => xo 8 v14 fun q => F_X7_isHeld q v15) fun v16 => xp (decide (¬ v16 = 0))) else xp false) fun v27 => if v27 then (xb (xb (xb (xb (xp (some this)) fun v18 => xgr 8 23 v18) fun v22 => xb (xb (xb (xp (some this)) fun v19 => xgr 8 5 v19) fun v20 => xb (xp its_) fun v21 => xai 0 v20 v21) fun v23 => xal v22 v23) fun v24 => xb (xp when_) fun v25 => F_X7_has v24 v25) fun v26 => xp (decide (¬ v26 = 0))) else xp false) fun v28 => xp (b2i v28)) fun v32 => xo 8 v29 fun q => F_X7_goes q v30 v31 v32) fun v33 => xp (decide (¬ v33 = 0))) fun v34 => xp (!v34)) fun v39 => if v39 then (xp (0 : Int32)) else
  (xb (xp (some this)) fun v35 => xb (xp its_) fun v36 => xb (xp when_) fun v37 => xb (xp clock_) fun v38 => xo 8 v35 fun q => F_X7_moves q v36 v37 v38))))
set_option maxRecDepth 100000 in
set_option maxHeartbeats 4000000 in
theorem M_X7_move (this : Nat) (its_ : Int32) (when_ : Int32) (clock_ : Int32) : MM yX7_move cX7_move 6 (some .int) 5 115 0 0 encI [.ref this, .int its_, .int when_, .int clock_] (F_X7_move this its_ when_ clock_) := by
  refine MM_of (env0 := [(0, va_rf (some this)), (1, .int its_), (2, .int when_), (3, .int clock_)]) (by decide) (by exact Nat.le_of_ble_eq_true rfl) (by rfl) (fun k mm res X C hR hN hr hname h => ?_)
  have X : CX k cX7_move RX7 := X
  have hT : TH k (fun e m' => res = (.error e, m')) := TH_of C
  have htr := C.2.2.2.1
  unfold F_X7_move at h
  exact SB_go (T := fun e m' => res = (.error e, m')) (RET := fun v m' => res = (.ok v, m')) (SB_let (XE_2 (pB := pI) wR (L_aload_n (r := (some this)) 0 X dX7_move_0 rfl rfl) (L_iload_n (x := its_) 1 X dX7_move_1 rfl rfl) (fun v0 v1 st mm a b hd hc hs h => g_callVo (st := st) (cI := 8) X hT htr rfl (fun q => M_X7_isMeeting q v1) lk_X7_isMeeting im_X7_isMeeting se_X7_isMeeting ml_X7_211 rfl (by rw [hR]; exact ⟨Nat.le_of_ble_eq_true rfl, Nat.le_of_ble_eq_true rfl⟩) (Nat.le_trans hd (by decide)) ⟨hc, hs⟩ dX7_move_2 h)) (S_istore (ev := fun is_3 => [(4, .int is_3), (0, va_rf (some this)), (1, .int its_), (2, .int when_), (3, .int clock_)]) X dX7_move_5 (by rw [hN]; decide) (fun _ => rfl)) fun is_3 =>
  (SB_let (XE_b2i (CE_and (CE_1 (XE_1 (pB := pI)  (L_iload_n (x := when_) 3 X dX7_move_7 rfl rfl) (fun v0 st mm a b hd hc hs h => g_callS (st := st) X hT htr (M_X7_isDay v0) lk_X7_isDay st_X7_isDay ml_X7_157 rfl (by rw [hR]; exact ⟨Nat.le_of_ble_eq_true rfl, Nat.le_of_ble_eq_true rfl⟩) (Nat.le_trans hd (by decide)) ⟨hc, hs⟩ dX7_move_8 h)) (Z_ne_F X dX7_move_11 (by decide))) (CE_1 (XE_1 (pB := pI)  (L_iload_n (x := clock_) 4 X dX7_move_14 rfl rfl) (fun v0 st mm a b hd hc hs h => g_callS (st := st) X hT htr (M_X7_isClock v0) lk_X7_isClock st_X7_isClock ml_X7_226 rfl (by rw [hR]; exact ⟨Nat.le_of_ble_eq_true rfl, Nat.le_of_ble_eq_true rfl⟩) (Nat.le_trans hd (by decide)) ⟨hc, hs⟩ dX7_move_15 h)) (Z_ne_F X dX7_move_18 (by decide)))) (S_b1 X dX7_move_21 dX7_move_22 (by decide)) (S_b0 X dX7_move_25)) (S_istore (ev := fun can_10 => [(5, .int can_10), (4, .int is_3), (0, va_rf (some this)), (1, .int its_), (2, .int when_), (3, .int clock_)]) X dX7_move_26 (by rw [hN]; decide) (fun _ => rfl)) fun can_10 =>
  (SB_if (CE_not (CE_1 (XE_4 (pB := pI) wR wI wI (L_aload_n (r := (some this)) 2 X dX7_move_28 rfl rfl) (L_iload (x := is_3) 1 X dX7_move_29 rfl) (L_iload (x := can_10) 0 X dX7_move_31 rfl) (XE_b2i (CE_and (CE_and (CE_and (CE_1 (L_iload (x := is_3) 1 X dX7_move_33 rfl) (Z_ne_F X dX7_move_35 (by decide))) (CE_1 (L_iload (x := can_10) 0 X dX7_move_38 rfl) (Z_ne_F X dX7_move_40 (by decide)))) (CE_1 (XE_2 (pB := pI) wR (L_aload_n (r := (some this)) 2 X dX7_move_43 rfl rfl) (L_iload_n (x := its_) 3 X dX7_move_44 rfl rfl) (fun v0 v1 st mm a b hd hc hs h => g_callVo (st := st) (cI := 8) X hT htr rfl (fun q => M_X7_isHeld q v1) lk_X7_isHeld im_X7_isHeld se_X7_isHeld ml_X7_214 rfl (by rw [hR]; exact ⟨Nat.le_of_ble_eq_true rfl, Nat.le_of_ble_eq_true rfl⟩) (Nat.le_trans hd (by decide)) ⟨hc, hs⟩ dX7_move_45 h)) (Z_ne_F X dX7_move_48 (by decide)))) (CE_1 (XE_2 (pB := pI) wL (XE_2 wR (XE_1 (L_aload_n (r := (some this)) 2 X dX7_move_51 rfl rfl) (O_gr (c := 8) (j := 23) X rfl inW7 (by decide) fl_X7_75 rfl dX7_move_52)) (XE_2 wR (XE_1 (L_aload_n (r := (some this)) 2 X dX7_move_55 rfl rfl) (O_gr (c := 8) (j := 5) X rfl inW7 (by decide) fl_X7_22 rfl dX7_move_56)) (L_iload_n (x := its_) 3 X dX7_move_59 rfl rfl) (O_ai X dX7_move_60)) (O_al X dX7_move_61)) (L_iload_n (x := when_) 4 X dX7_move_62 rfl rfl) (fun v0 v1 st mm a b hd hc hs h => g_callS (st := st) X hT htr (M_X7_has v0 v1) lk_X7_has st_X7_has ml_X7_180 rfl (by rw [hR]; exact ⟨Nat.le_of_ble_eq_true rfl, Nat.le_of_ble_eq_true rfl⟩) (Nat.le_trans hd (by decide)) ⟨hc, hs⟩ dX7_move_63 h)) (Z_ne_F X dX7_move_66 (by decide)))) (S_b1 X dX7_move_69 dX7_move_70 (by decide)) (S_b0 X dX7_move_73)) (fun v0 v1 v2 v3 st mm a b hd hc hs h => g_callVo (st := st) (cI := 8) X hT htr rfl (fun q => M_X7_goes q v1 v2 v3) lk_X7_goes im_X7_goes se_X7_goes ml_X7_153 rfl (by rw [hR]; exact ⟨Nat.le_of_ble_eq_true rfl, Nat.le_of_ble_eq_true rfl⟩) (Nat.le_trans hd (by decide)) ⟨hc, hs⟩ dX7_move_74 h)) (Z_ne_T X dX7_move_77 (by decide))))
  (SB_retI X C hr dX7_move_81 (L_iconst (v := 0) X dX7_move_80 (by decide)))
  (SB_retI X C hr dX7_move_89 (XE_4 (pB := pI) wR wI wI (L_aload_n (r := (some this)) 2 X dX7_move_82 rfl rfl) (L_iload_n (x := its_) 3 X dX7_move_83 rfl rfl) (L_iload_n (x := when_) 4 X dX7_move_84 rfl rfl) (L_iload_n (x := clock_) 5 X dX7_move_85 rfl rfl) (fun v0 v1 v2 v3 st mm a b hd hc hs h => g_callVo (st := st) (cI := 8) X hT htr rfl (fun q => M_X7_moves q v1 v2 v3) lk_X7_moves im_X7_moves se_X7_moves ml_X7_229 rfl (by rw [hR]; exact ⟨Nat.le_of_ble_eq_true rfl, Nat.le_of_ble_eq_true rfl⟩) (Nat.le_trans hd (by decide)) ⟨hc, hs⟩ dX7_move_86 h)))))) h (by rw [hR]; decide) (by rw [hR]; decide)
theorem dX7_invite_0 : decode cX7_invite 0 = .ok (.aload_n 0, 1) := by decide +kernel
theorem dX7_invite_1 : decode cX7_invite 1 = .ok (.iload_n 1, 1) := by decide +kernel
theorem dX7_invite_2 : decode cX7_invite 2 = .ok (.invokevirtual 211, 3) := by decide +kernel
theorem dX7_invite_5 : decode cX7_invite 5 = .ok (.ifCond .eq 14, 3) := by decide +kernel
theorem dX7_invite_8 : decode cX7_invite 8 = .ok (.iload_n 2, 1) := by decide +kernel
theorem dX7_invite_9 : decode cX7_invite 9 = .ok (.invokestatic 202, 3) := by decide +kernel
theorem dX7_invite_12 : decode cX7_invite 12 = .ok (.ifCond .eq 7, 3) := by decide +kernel
theorem dX7_invite_15 : decode cX7_invite 15 = .ok (.iconst 1, 1) := by decide +kernel
theorem dX7_invite_16 : decode cX7_invite 16 = .ok (.goto 4, 3) := by decide +kernel
theorem dX7_invite_19 : decode cX7_invite 19 = .ok (.iconst 0, 1) := by decide +kernel
theorem dX7_invite_20 : decode cX7_invite 20 = .ok (.istore 4, 2) := by decide +kernel
theorem dX7_invite_22 : decode cX7_invite 22 = .ok (.iload 4, 2) := by decide +kernel
theorem dX7_invite_24 : decode cX7_invite 24 = .ok (.ifCond .ne 7, 3) := by decide +kernel
theorem dX7_invite_27 : decode cX7_invite 27 = .ok (.iconst 0, 1) := by decide +kernel
theorem dX7_invite_28 : decode cX7_invite 28 = .ok (.goto 32, 3) := by decide +kernel
theorem dX7_invite_31 : decode cX7_invite 31 = .ok (.iload_n 3, 1) := by decide +kernel
theorem dX7_invite_32 : decode cX7_invite 32 = .ok (.ifCond .eq 17, 3) := by decide +kernel
theorem dX7_invite_35 : decode cX7_invite 35 = .ok (.aload_n 0, 1) := by decide +kernel
theorem dX7_invite_36 : decode cX7_invite 36 = .ok (.getfield 56, 3) := by decide +kernel
theorem dX7_invite_39 : decode cX7_invite 39 = .ok (.aload_n 0, 1) := by decide +kernel
theorem dX7_invite_40 : decode cX7_invite 40 = .ok (.getfield 22, 3) := by decide +kernel
theorem dX7_invite_43 : decode cX7_invite 43 = .ok (.iload_n 1, 1) := by decide +kernel
theorem dX7_invite_44 : decode cX7_invite 44 = .ok (.iaload, 1) := by decide +kernel
theorem dX7_invite_45 : decode cX7_invite 45 = .ok (.iaload, 1) := by decide +kernel
theorem dX7_invite_46 : decode cX7_invite 46 = .ok (.goto 14, 3) := by decide +kernel
theorem dX7_invite_49 : decode cX7_invite 49 = .ok (.aload_n 0, 1) := by decide +kernel
theorem dX7_invite_50 : decode cX7_invite 50 = .ok (.getfield 59, 3) := by decide +kernel
theorem dX7_invite_53 : decode cX7_invite 53 = .ok (.aload_n 0, 1) := by decide +kernel
theorem dX7_invite_54 : decode cX7_invite 54 = .ok (.getfield 22, 3) := by decide +kernel
theorem dX7_invite_57 : decode cX7_invite 57 = .ok (.iload_n 1, 1) := by decide +kernel
theorem dX7_invite_58 : decode cX7_invite 58 = .ok (.iaload, 1) := by decide +kernel
theorem dX7_invite_59 : decode cX7_invite 59 = .ok (.iaload, 1) := by decide +kernel
theorem dX7_invite_60 : decode cX7_invite 60 = .ok (.istore 5, 2) := by decide +kernel
theorem dX7_invite_62 : decode cX7_invite 62 = .ok (.aload_n 0, 1) := by decide +kernel
theorem dX7_invite_63 : decode cX7_invite 63 = .ok (.iload 4, 2) := by decide +kernel
theorem dX7_invite_65 : decode cX7_invite 65 = .ok (.iload 4, 2) := by decide +kernel
theorem dX7_invite_67 : decode cX7_invite 67 = .ok (.ifCond .eq 17, 3) := by decide +kernel
theorem dX7_invite_70 : decode cX7_invite 70 = .ok (.aload_n 0, 1) := by decide +kernel
theorem dX7_invite_71 : decode cX7_invite 71 = .ok (.getfield 19, 3) := by decide +kernel
theorem dX7_invite_74 : decode cX7_invite 74 = .ok (.iload_n 1, 1) := by decide +kernel
theorem dX7_invite_75 : decode cX7_invite 75 = .ok (.iaload, 1) := by decide +kernel
theorem dX7_invite_76 : decode cX7_invite 76 = .ok (.iload_n 2, 1) := by decide +kernel
theorem dX7_invite_77 : decode cX7_invite 77 = .ok (.if_icmp .eq 7, 3) := by decide +kernel
theorem dX7_invite_80 : decode cX7_invite 80 = .ok (.iconst 1, 1) := by decide +kernel
theorem dX7_invite_81 : decode cX7_invite 81 = .ok (.goto 4, 3) := by decide +kernel
theorem dX7_invite_84 : decode cX7_invite 84 = .ok (.iconst 0, 1) := by decide +kernel
theorem dX7_invite_85 : decode cX7_invite 85 = .ok (.iload 4, 2) := by decide +kernel
theorem dX7_invite_87 : decode cX7_invite 87 = .ok (.ifCond .eq 24, 3) := by decide +kernel
theorem dX7_invite_90 : decode cX7_invite 90 = .ok (.aload_n 0, 1) := by decide +kernel
theorem dX7_invite_91 : decode cX7_invite 91 = .ok (.iload_n 1, 1) := by decide +kernel
theorem dX7_invite_92 : decode cX7_invite 92 = .ok (.invokevirtual 214, 3) := by decide +kernel
theorem dX7_invite_95 : decode cX7_invite 95 = .ok (.ifCond .eq 16, 3) := by decide +kernel
theorem dX7_invite_98 : decode cX7_invite 98 = .ok (.iload 5, 2) := by decide +kernel
theorem dX7_invite_100 : decode cX7_invite 100 = .ok (.iload_n 2, 1) := by decide +kernel
theorem dX7_invite_101 : decode cX7_invite 101 = .ok (.ishr, 1) := by decide +kernel
theorem dX7_invite_102 : decode cX7_invite 102 = .ok (.iconst 1, 1) := by decide +kernel
theorem dX7_invite_103 : decode cX7_invite 103 = .ok (.iand, 1) := by decide +kernel
theorem dX7_invite_104 : decode cX7_invite 104 = .ok (.ifCond .ne 7, 3) := by decide +kernel
theorem dX7_invite_107 : decode cX7_invite 107 = .ok (.iconst 1, 1) := by decide +kernel
theorem dX7_invite_108 : decode cX7_invite 108 = .ok (.goto 4, 3) := by decide +kernel
theorem dX7_invite_111 : decode cX7_invite 111 = .ok (.iconst 0, 1) := by decide +kernel
theorem dX7_invite_112 : decode cX7_invite 112 = .ok (.invokevirtual 153, 3) := by decide +kernel
theorem dX7_invite_115 : decode cX7_invite 115 = .ok (.ifCond .ne 5, 3) := by decide +kernel
theorem dX7_invite_118 : decode cX7_invite 118 = .ok (.iconst 0, 1) := by decide +kernel
theorem dX7_invite_119 : decode cX7_invite 119 = .ok (.ireturn, 1) := by decide +kernel
theorem dX7_invite_120 : decode cX7_invite 120 = .ok (.aload_n 0, 1) := by decide +kernel
theorem dX7_invite_121 : decode cX7_invite 121 = .ok (.iload_n 1, 1) := by decide +kernel
theorem dX7_invite_122 : decode cX7_invite 122 = .ok (.invokevirtual 217, 3) := by decide +kernel
theorem dX7_invite_125 : decode cX7_invite 125 = .ok (.istore 6, 2) := by decide +kernel
theorem dX7_invite_127 : decode cX7_invite 127 = .ok (.iconst 1, 1) := by decide +kernel
theorem dX7_invite_128 : decode cX7_invite 128 = .ok (.iload_n 2, 1) := by decide +kernel
theorem dX7_invite_129 : decode cX7_invite 129 = .ok (.ishl, 1) := by decide +kernel
theorem dX7_invite_130 : decode cX7_invite 130 = .ok (.istore 7, 2) := by decide +kernel
theorem dX7_invite_132 : decode cX7_invite 132 = .ok (.aload_n 0, 1) := by decide +kernel
theorem dX7_invite_133 : decode cX7_invite 133 = .ok (.getfield 56, 3) := by decide +kernel
theorem dX7_invite_136 : decode cX7_invite 136 = .ok (.iload 6, 2) := by decide +kernel
theorem dX7_invite_138 : decode cX7_invite 138 = .ok (.iload_n 3, 1) := by decide +kernel
theorem dX7_invite_139 : decode cX7_invite 139 = .ok (.ifCond .eq 16, 3) := by decide +kernel
theorem dX7_invite_142 : decode cX7_invite 142 = .ok (.aload_n 0, 1) := by decide +kernel
theorem dX7_invite_143 : decode cX7_invite 143 = .ok (.getfield 56, 3) := by decide +kernel
theorem dX7_invite_146 : decode cX7_invite 146 = .ok (.iload 6, 2) := by decide +kernel
theorem dX7_invite_148 : decode cX7_invite 148 = .ok (.iaload, 1) := by decide +kernel
theorem dX7_invite_149 : decode cX7_invite 149 = .ok (.iload 7, 2) := by decide +kernel
theorem dX7_invite_151 : decode cX7_invite 151 = .ok (.ior, 1) := by decide +kernel
theorem dX7_invite_152 : decode cX7_invite 152 = .ok (.goto 15, 3) := by decide +kernel
theorem dX7_invite_155 : decode cX7_invite 155 = .ok (.aload_n 0, 1) := by decide +kernel
theorem dX7_invite_156 : decode cX7_invite 156 = .ok (.getfield 56, 3) := by decide +kernel
theorem dX7_invite_159 : decode cX7_invite 159 = .ok (.iload 6, 2) := by decide +kernel
theorem dX7_invite_161 : decode cX7_invite 161 = .ok (.iaload, 1) := by decide +kernel
theorem dX7_invite_162 : decode cX7_invite 162 = .ok (.iload 7, 2) := by decide +kernel
theorem dX7_invite_164 : decode cX7_invite 164 = .ok (.iconst (-1), 1) := by decide +kernel
theorem dX7_invite_165 : decode cX7_invite 165 = .ok (.ixor, 1) := by decide +kernel
theorem dX7_invite_166 : decode cX7_invite 166 = .ok (.iand, 1) := by decide +kernel
theorem dX7_invite_167 : decode cX7_invite 167 = .ok (.iastore, 1) := by decide +kernel
theorem dX7_invite_168 : decode cX7_invite 168 = .ok (.aload_n 0, 1) := by decide +kernel
theorem dX7_invite_169 : decode cX7_invite 169 = .ok (.getfield 59, 3) := by decide +kernel
theorem dX7_invite_172 : decode cX7_invite 172 = .ok (.iload 6, 2) := by decide +kernel
theorem dX7_invite_174 : decode cX7_invite 174 = .ok (.iload_n 3, 1) := by decide +kernel
theorem dX7_invite_175 : decode cX7_invite 175 = .ok (.ifCond .eq 18, 3) := by decide +kernel
theorem dX7_invite_178 : decode cX7_invite 178 = .ok (.aload_n 0, 1) := by decide +kernel
theorem dX7_invite_179 : decode cX7_invite 179 = .ok (.getfield 59, 3) := by decide +kernel
theorem dX7_invite_182 : decode cX7_invite 182 = .ok (.iload 6, 2) := by decide +kernel
theorem dX7_invite_184 : decode cX7_invite 184 = .ok (.iaload, 1) := by decide +kernel
theorem dX7_invite_185 : decode cX7_invite 185 = .ok (.iload 7, 2) := by decide +kernel
theorem dX7_invite_187 : decode cX7_invite 187 = .ok (.iconst (-1), 1) := by decide +kernel
theorem dX7_invite_188 : decode cX7_invite 188 = .ok (.ixor, 1) := by decide +kernel
theorem dX7_invite_189 : decode cX7_invite 189 = .ok (.iand, 1) := by decide +kernel
theorem dX7_invite_190 : decode cX7_invite 190 = .ok (.goto 13, 3) := by decide +kernel
theorem dX7_invite_193 : decode cX7_invite 193 = .ok (.aload_n 0, 1) := by decide +kernel
theorem dX7_invite_194 : decode cX7_invite 194 = .ok (.getfield 59, 3) := by decide +kernel
theorem dX7_invite_197 : decode cX7_invite 197 = .ok (.iload 6, 2) := by decide +kernel
theorem dX7_invite_199 : decode cX7_invite 199 = .ok (.iaload, 1) := by decide +kernel
theorem dX7_invite_200 : decode cX7_invite 200 = .ok (.iload 7, 2) := by decide +kernel
theorem dX7_invite_202 : decode cX7_invite 202 = .ok (.ior, 1) := by decide +kernel
theorem dX7_invite_203 : decode cX7_invite 203 = .ok (.iastore, 1) := by decide +kernel
theorem dX7_invite_204 : decode cX7_invite 204 = .ok (.aload_n 0, 1) := by decide +kernel
theorem dX7_invite_205 : decode cX7_invite 205 = .ok (.iload_n 1, 1) := by decide +kernel
theorem dX7_invite_206 : decode cX7_invite 206 = .ok (.iload 6, 2) := by decide +kernel
theorem dX7_invite_208 : decode cX7_invite 208 = .ok (.invokevirtual 208, 3) := by decide +kernel
theorem dX7_invite_211 : decode cX7_invite 211 = .ok (.ireturn, 1) := by decide +kernel
theorem lk_X7_invite : LK yX7_invite cX7_invite 8 (some .int) 3 := ⟨qW_at 1576 (by decide +kernel) rfl, qW_at 78 (by decide +kernel) rfl, by decide, by decide, by decide +kernel⟩
theorem im_X7_invite : Cond.instanceMethod yX7_invite ∈ qW := qW_at 1574 (by decide +kernel) rfl
theorem se_X7_invite : Cond.selects RX7 yX7_invite yX7_invite ∈ qW := qW_at 1575 (by decide +kernel) rfl
def F_X7_invite (this : Nat) (its_ : Int32) (person_ : Int32) (isInvited_ : Int32) : QX Int32 :=
  (xb (xb (xb (xb (xb (xp (some this)) fun v1 => xb (xp its_) fun v2 => xo 8 v1 fun q => F_X7_isMeeting q v2) fun v3 => xp (decide (¬ v3 = 0))) fun v6 => if v6 then (xb (xb (xp person_) fun v4 => F_X7_isPerson v4) fun v5 => xp (decide (¬ v5 = 0))) else xp false) fun v7 => xp (b2i v7)) fun is_8 =>
  (xb (xb (xb (xb (xp is_8) fun v9 => xp (decide (¬ v9 = 0))) fun v10 => xp (!v10)) fun v25 => if v25 then (xp (0 : Int32)) else (xb (xb (xp isInvited_) fun v11 => xp (decide (¬ v11 = 0))) fun v24 => if v24 then (xb (xb (xp (some this)) fun v12 => xgr 8 17 v12) fun v16 => xb (xb (xb (xp (some this)) fun v13 => xgr 8 5 v13) fun v14 => xb (xp its_) fun v15 => xai 0 v14 v15) fun v17 => xai 0 v16 v17) else (xb (xb (xp (some this)) fun v18 => xgr 8 18 v18) fun v22 => xb (xb (xb (xp (some this)) fun v19 => xgr 8 5 v19) fun v20 => xb (xp its_) fun v21 => xai 0 v20 v21) fun v23 => xai 0 v22 v23))) fun set_26 =>
  (xb (xb (xb (xb (xp (some this)) fun v47 => xb (xp is_8) fun v48 => xb (xb (xb (xb (xp is_8) fun v27 => xp (decide (¬ v27 = 0))) fun v33 => if v33 then (xb (xb (xb (xp (some this)) fun v28 => xgr 8 4 v28) fun v29 => xb (xp its_) fun v30 => xai 0 v29 v30) fun v31 => xb (xp person_) fun v32 => xp (decide (¬ v31 = v32))) else xp false) fun v34 => xp (b2i v34)) fun v49 => xb (xb (xb (xb (xb (xp is_8) fun v35 => xp (decide (¬ v35 = 0))) fun v39 => if v39 then (xb (xb (xp (some this)) fun v36 => xb (xp its_) fun v37 => xo 8 v36 fun q => F_X7_isHeld q v37) fun v38 => xp (decide (¬ v38 = 0))) else xp false) fun v45 => if v45 then (xb (xb (xb (xp set_26) fun v40 => xb (xp person_) fun v41 => (xp (v40 >>> (v41 &&& 31)))) fun v42 => xb (xp (1 : Int32)) fun v43 => (xp (v42 &&& v43))) fun v44 => xp (decide (v44 = 0))) else xp false) fun v46 => xp (b2i v46)) fun v50 => xo 8 v47 fun q => F_X7_goes q v48 v49 v50) fun v51 => xp (decide (¬ v51 = 0))) fun v52 => xp (!v52)) fun v98 => if v98 then (xp (0 : Int32)) else
  (xb (xb (xp (some this)) fun v53 => xb (xp its_) fun v54 => xo 8 v53 fun q => F_X7_next q v54) fun to_55 =>
  (xb (xb (xp (1 : Int32)) fun v56 => xb (xp person_) fun v57 => (xp (v56 <<< (v57 &&& 31)))) fun bit_58 =>
  (xb (xb (xb (xp (some this)) fun v59 => xgr 8 17 v59) fun v74 => xb (xp to_55) fun v75 => xb (xb (xb (xp isInvited_) fun v60 => xp (decide (¬ v60 = 0))) fun v73 => if v73 then (xb (xb (xb (xp (some this)) fun v61 => xgr 8 17 v61) fun v62 => xb (xp to_55) fun v63 => xai 0 v62 v63) fun v64 => xb (xp bit_58) fun v65 => (xp (v64 ||| v65))) else (xb (xb (xb (xp (some this)) fun v66 => xgr 8 17 v66) fun v67 => xb (xp to_55) fun v68 => xai 0 v67 v68) fun v71 => xb (xb (xp bit_58) fun v69 => xb (xp (-1 : Int32)) fun v70 => xp (v69 ^^^ v70)) fun v72 => (xp (v71 &&& v72)))) fun v76 => xsai v74 v75 v76) fun _ =>
  (xb (xb (xb (xp (some this)) fun v77 => xgr 8 18 v77) fun v92 => xb (xp to_55) fun v93 => xb (xb (xb (xp isInvited_) fun v78 => xp (decide (¬ v78 = 0))) fun v91 => if v91 then (xb (xb (xb (xp (some this)) fun v79 => xgr 8 18 v79) fun v80 => xb (xp to_55) fun v81 => xai 0 v80 v81) fun v84 => xb (xb (xp bit_58) fun v82 => xb (xp (-1 : Int32)) fun v83 => xp (v82 ^^^ v83)) fun v85 => (xp (v84 &&& v85))) else (xb (xb (xb (xp (some this)) fun v86 => xgr 8 18 v86) fun v87 => xb (xp to_55) fun v88 => xai 0 v87 v88) fun v89 => xb (xp bit_58) fun v90 => (xp (v89 ||| v90)))) fun v94 => xsai v92 v93 v94) fun _ =>
  (xb (xp (some this)) fun v95 => xb (xp its_) fun v96 => xb (xp to_55) fun v97 => xo 8 v95 fun q => F_X7_holds q v96 v97))))))))
set_option maxRecDepth 100000 in
set_option maxHeartbeats 4000000 in
theorem M_X7_invite (this : Nat) (its_ : Int32) (person_ : Int32) (isInvited_ : Int32) : MM yX7_invite cX7_invite 8 (some .int) 4 91 0 0 encI [.ref this, .int its_, .int person_, .int isInvited_] (F_X7_invite this its_ person_ isInvited_) := by
  refine MM_of (env0 := [(0, va_rf (some this)), (1, .int its_), (2, .int person_), (3, .int isInvited_)]) (by decide) (by exact Nat.le_of_ble_eq_true rfl) (by rfl) (fun k mm res X C hR hN hr hname h => ?_)
  have X : CX k cX7_invite RX7 := X
  have hT : TH k (fun e m' => res = (.error e, m')) := TH_of C
  have htr := C.2.2.2.1
  unfold F_X7_invite at h
  exact SB_go (T := fun e m' => res = (.error e, m')) (RET := fun v m' => res = (.ok v, m')) (SB_let (XE_b2i (CE_and (CE_1 (XE_2 (pB := pI) wR (L_aload_n (r := (some this)) 0 X dX7_invite_0 rfl rfl) (L_iload_n (x := its_) 1 X dX7_invite_1 rfl rfl) (fun v0 v1 st mm a b hd hc hs h => g_callVo (st := st) (cI := 8) X hT htr rfl (fun q => M_X7_isMeeting q v1) lk_X7_isMeeting im_X7_isMeeting se_X7_isMeeting ml_X7_211 rfl (by rw [hR]; exact ⟨Nat.le_of_ble_eq_true rfl, Nat.le_of_ble_eq_true rfl⟩) (Nat.le_trans hd (by decide)) ⟨hc, hs⟩ dX7_invite_2 h)) (Z_ne_F X dX7_invite_5 (by decide))) (CE_1 (XE_1 (pB := pI)  (L_iload_n (x := person_) 2 X dX7_invite_8 rfl rfl) (fun v0 st mm a b hd hc hs h => g_callS (st := st) X hT htr (M_X7_isPerson v0) lk_X7_isPerson st_X7_isPerson ml_X7_202 rfl (by rw [hR]; exact ⟨Nat.le_of_ble_eq_true rfl, Nat.le_of_ble_eq_true rfl⟩) (Nat.le_trans hd (by decide)) ⟨hc, hs⟩ dX7_invite_9 h)) (Z_ne_F X dX7_invite_12 (by decide)))) (S_b1 X dX7_invite_15 dX7_invite_16 (by decide)) (S_b0 X dX7_invite_19)) (S_istore (ev := fun is_8 => [(4, .int is_8), (0, va_rf (some this)), (1, .int its_), (2, .int person_), (3, .int isInvited_)]) X dX7_invite_20 (by rw [hN]; decide) (fun _ => rfl)) fun is_8 =>
  (SB_let (XE_tern (CE_not (CE_1 (L_iload (x := is_8) 0 X dX7_invite_22 rfl) (Z_ne_T X dX7_invite_24 (by decide)))) (L_iconst (v := 0) X dX7_invite_27 (by decide)) (S_goto X dX7_invite_28 (by decide)) (XE_tern (CE_1 (L_iload_n (x := isInvited_) 4 X dX7_invite_31 rfl rfl) (Z_ne_F X dX7_invite_32 (by decide))) (XE_2 wR (XE_1 (L_aload_n (r := (some this)) 1 X dX7_invite_35 rfl rfl) (O_gr (c := 8) (j := 17) X rfl inW7 (by decide) fl_X7_56 rfl dX7_invite_36)) (XE_2 wR (XE_1 (L_aload_n (r := (some this)) 1 X dX7_invite_39 rfl rfl) (O_gr (c := 8) (j := 5) X rfl inW7 (by decide) fl_X7_22 rfl dX7_invite_40)) (L_iload_n (x := its_) 2 X dX7_invite_43 rfl rfl) (O_ai X dX7_invite_44)) (O_ai X dX7_invite_45)) (S_goto X dX7_invite_46 (by decide)) (XE_2 wR (XE_1 (L_aload_n (r := (some this)) 1 X dX7_invite_49 rfl rfl) (O_gr (c := 8) (j := 18) X rfl inW7 (by decide) fl_X7_59 rfl dX7_invite_50)) (XE_2 wR (XE_1 (L_aload_n (r := (some this)) 1 X dX7_invite_53 rfl rfl) (O_gr (c := 8) (j := 5) X rfl inW7 (by decide) fl_X7_22 rfl dX7_invite_54)) (L_iload_n (x := its_) 2 X dX7_invite_57 rfl rfl) (O_ai X dX7_invite_58)) (O_ai X dX7_invite_59)))) (S_istore (ev := fun set_26 => [(5, .int set_26), (4, .int is_8), (0, va_rf (some this)), (1, .int its_), (2, .int person_), (3, .int isInvited_)]) X dX7_invite_60 (by rw [hN]; decide) (fun _ => rfl)) fun set_26 =>
  (SB_if (CE_not (CE_1 (XE_4 (pB := pI) wR wI wI (L_aload_n (r := (some this)) 2 X dX7_invite_62 rfl rfl) (L_iload (x := is_8) 1 X dX7_invite_63 rfl) (XE_b2i (CE_and (CE_1 (L_iload (x := is_8) 1 X dX7_invite_65 rfl) (Z_ne_F X dX7_invite_67 (by decide))) (CE_2 wI (XE_2 wR (XE_1 (L_aload_n (r := (some this)) 2 X dX7_invite_70 rfl rfl) (O_gr (c := 8) (j := 4) X rfl inW7 (by decide) fl_X7_19 rfl dX7_invite_71)) (L_iload_n (x := its_) 3 X dX7_invite_74 rfl rfl) (O_ai X dX7_invite_75)) (L_iload_n (x := person_) 4 X dX7_invite_76 rfl rfl) (C_ne_F X dX7_invite_77 (by decide)))) (S_b1 X dX7_invite_80 dX7_invite_81 (by decide)) (S_b0 X dX7_invite_84)) (XE_b2i (CE_and (CE_and (CE_1 (L_iload (x := is_8) 1 X dX7_invite_85 rfl) (Z_ne_F X dX7_invite_87 (by decide))) (CE_1 (XE_2 (pB := pI) wR (L_aload_n (r := (some this)) 2 X dX7_invite_90 rfl rfl) (L_iload_n (x := its_) 3 X dX7_invite_91 rfl rfl) (fun v0 v1 st mm a b hd hc hs h => g_callVo (st := st) (cI := 8) X hT htr rfl (fun q => M_X7_isHeld q v1) lk_X7_isHeld im_X7_isHeld se_X7_isHeld ml_X7_214 rfl (by rw [hR]; exact ⟨Nat.le_of_ble_eq_true rfl, Nat.le_of_ble_eq_true rfl⟩) (Nat.le_trans hd (by decide)) ⟨hc, hs⟩ dX7_invite_92 h)) (Z_ne_F X dX7_invite_95 (by decide)))) (CE_1 (XE_2 wI (XE_2 wI (L_iload (x := set_26) 0 X dX7_invite_98 rfl) (L_iload_n (x := person_) 4 X dX7_invite_100 rfl rfl) (O_ishr X dX7_invite_101)) (L_iconst (v := 1) X dX7_invite_102 (by decide)) (O_iand X dX7_invite_103)) (Z_eq_F X dX7_invite_104 (by decide)))) (S_b1 X dX7_invite_107 dX7_invite_108 (by decide)) (S_b0 X dX7_invite_111)) (fun v0 v1 v2 v3 st mm a b hd hc hs h => g_callVo (st := st) (cI := 8) X hT htr rfl (fun q => M_X7_goes q v1 v2 v3) lk_X7_goes im_X7_goes se_X7_goes ml_X7_153 rfl (by rw [hR]; exact ⟨Nat.le_of_ble_eq_true rfl, Nat.le_of_ble_eq_true rfl⟩) (Nat.le_trans hd (by decide)) ⟨hc, hs⟩ dX7_invite_112 h)) (Z_ne_T X dX7_invite_115 (by decide))))
  (SB_retI X C hr dX7_invite_119 (L_iconst (v := 0) X dX7_invite_118 (by decide)))
  (SB_let (XE_2 (pB := pI) wR (L_aload_n (r := (some this)) 2 X dX7_invite_120 rfl rfl) (L_iload_n (x := its_) 3 X dX7_invite_121 rfl rfl) (fun v0 v1 st mm a b hd hc hs h => g_callVo (st := st) (cI := 8) X hT htr rfl (fun q => M_X7_next q v1) lk_X7_next im_X7_next se_X7_next ml_X7_217 rfl (by rw [hR]; exact ⟨Nat.le_of_ble_eq_true rfl, Nat.le_of_ble_eq_true rfl⟩) (Nat.le_trans hd (by decide)) ⟨hc, hs⟩ dX7_invite_122 h)) (S_istore (ev := fun to_55 => [(6, .int to_55), (5, .int set_26), (4, .int is_8), (0, va_rf (some this)), (1, .int its_), (2, .int person_), (3, .int isInvited_)]) X dX7_invite_125 (by rw [hN]; decide) (fun _ => rfl)) fun to_55 =>
  (SB_let (XE_2 wI (L_iconst (v := 1) X dX7_invite_127 (by decide)) (L_iload_n (x := person_) 5 X dX7_invite_128 rfl rfl) (O_ishl X dX7_invite_129)) (S_istore (ev := fun bit_58 => [(7, .int bit_58), (6, .int to_55), (5, .int set_26), (4, .int is_8), (0, va_rf (some this)), (1, .int its_), (2, .int person_), (3, .int isInvited_)]) X dX7_invite_130 (by rw [hN]; decide) (fun _ => rfl)) fun bit_58 =>
  (SB_do (XE_3 wR wI (XE_1 (L_aload_n (r := (some this)) 4 X dX7_invite_132 rfl rfl) (O_gr (c := 8) (j := 17) X rfl inW7 (by decide) fl_X7_56 rfl dX7_invite_133)) (L_iload (x := to_55) 1 X dX7_invite_136 rfl) (XE_tern (CE_1 (L_iload_n (x := isInvited_) 7 X dX7_invite_138 rfl rfl) (Z_ne_F X dX7_invite_139 (by decide))) (XE_2 wI (XE_2 wR (XE_1 (L_aload_n (r := (some this)) 4 X dX7_invite_142 rfl rfl) (O_gr (c := 8) (j := 17) X rfl inW7 (by decide) fl_X7_56 rfl dX7_invite_143)) (L_iload (x := to_55) 1 X dX7_invite_146 rfl) (O_ai X dX7_invite_148)) (L_iload (x := bit_58) 0 X dX7_invite_149 rfl) (O_ior X dX7_invite_151)) (S_goto X dX7_invite_152 (by decide)) (XE_2 wI (XE_2 wR (XE_1 (L_aload_n (r := (some this)) 4 X dX7_invite_155 rfl rfl) (O_gr (c := 8) (j := 17) X rfl inW7 (by decide) fl_X7_56 rfl dX7_invite_156)) (L_iload (x := to_55) 1 X dX7_invite_159 rfl) (O_ai X dX7_invite_161)) (XE_2 wI (L_iload (x := bit_58) 0 X dX7_invite_162 rfl) (L_iconst (v := (-1)) X dX7_invite_164 (by decide)) (O_ixor X dX7_invite_165)) (O_iand X dX7_invite_166))) (O_sai X dX7_invite_167))
  (SB_do (XE_3 wR wI (XE_1 (L_aload_n (r := (some this)) 4 X dX7_invite_168 rfl rfl) (O_gr (c := 8) (j := 18) X rfl inW7 (by decide) fl_X7_59 rfl dX7_invite_169)) (L_iload (x := to_55) 1 X dX7_invite_172 rfl) (XE_tern (CE_1 (L_iload_n (x := isInvited_) 7 X dX7_invite_174 rfl rfl) (Z_ne_F X dX7_invite_175 (by decide))) (XE_2 wI (XE_2 wR (XE_1 (L_aload_n (r := (some this)) 4 X dX7_invite_178 rfl rfl) (O_gr (c := 8) (j := 18) X rfl inW7 (by decide) fl_X7_59 rfl dX7_invite_179)) (L_iload (x := to_55) 1 X dX7_invite_182 rfl) (O_ai X dX7_invite_184)) (XE_2 wI (L_iload (x := bit_58) 0 X dX7_invite_185 rfl) (L_iconst (v := (-1)) X dX7_invite_187 (by decide)) (O_ixor X dX7_invite_188)) (O_iand X dX7_invite_189)) (S_goto X dX7_invite_190 (by decide)) (XE_2 wI (XE_2 wR (XE_1 (L_aload_n (r := (some this)) 4 X dX7_invite_193 rfl rfl) (O_gr (c := 8) (j := 18) X rfl inW7 (by decide) fl_X7_59 rfl dX7_invite_194)) (L_iload (x := to_55) 1 X dX7_invite_197 rfl) (O_ai X dX7_invite_199)) (L_iload (x := bit_58) 0 X dX7_invite_200 rfl) (O_ior X dX7_invite_202))) (O_sai X dX7_invite_203))
  (SB_retI X C hr dX7_invite_211 (XE_3 (pB := pI) wR wI (L_aload_n (r := (some this)) 4 X dX7_invite_204 rfl rfl) (L_iload_n (x := its_) 5 X dX7_invite_205 rfl rfl) (L_iload (x := to_55) 1 X dX7_invite_206 rfl) (fun v0 v1 v2 st mm a b hd hc hs h => g_callVo (st := st) (cI := 8) X hT htr rfl (fun q => M_X7_holds q v1 v2) lk_X7_holds im_X7_holds se_X7_holds ml_X7_208 rfl (by rw [hR]; exact ⟨Nat.le_of_ble_eq_true rfl, Nat.le_of_ble_eq_true rfl⟩) (Nat.le_trans hd (by decide)) ⟨hc, hs⟩ dX7_invite_208 h)))))))))) h (by rw [hR]; decide) (by rw [hR]; decide)
theorem dX7_cancel_0 : decode cX7_cancel 0 = .ok (.aload_n 0, 1) := by decide +kernel
theorem dX7_cancel_1 : decode cX7_cancel 1 = .ok (.aload_n 0, 1) := by decide +kernel
theorem dX7_cancel_2 : decode cX7_cancel 2 = .ok (.iload_n 1, 1) := by decide +kernel
theorem dX7_cancel_3 : decode cX7_cancel 3 = .ok (.invokevirtual 211, 3) := by decide +kernel
theorem dX7_cancel_6 : decode cX7_cancel 6 = .ok (.aload_n 0, 1) := by decide +kernel
theorem dX7_cancel_7 : decode cX7_cancel 7 = .ok (.iload_n 1, 1) := by decide +kernel
theorem dX7_cancel_8 : decode cX7_cancel 8 = .ok (.invokevirtual 214, 3) := by decide +kernel
theorem dX7_cancel_11 : decode cX7_cancel 11 = .ok (.iconst 1, 1) := by decide +kernel
theorem dX7_cancel_12 : decode cX7_cancel 12 = .ok (.invokevirtual 153, 3) := by decide +kernel
theorem dX7_cancel_15 : decode cX7_cancel 15 = .ok (.ifCond .ne 5, 3) := by decide +kernel
theorem dX7_cancel_18 : decode cX7_cancel 18 = .ok (.iconst 0, 1) := by decide +kernel
theorem dX7_cancel_19 : decode cX7_cancel 19 = .ok (.ireturn, 1) := by decide +kernel
theorem dX7_cancel_20 : decode cX7_cancel 20 = .ok (.aload_n 0, 1) := by decide +kernel
theorem dX7_cancel_21 : decode cX7_cancel 21 = .ok (.iload_n 1, 1) := by decide +kernel
theorem dX7_cancel_22 : decode cX7_cancel 22 = .ok (.invokevirtual 217, 3) := by decide +kernel
theorem dX7_cancel_25 : decode cX7_cancel 25 = .ok (.istore_n 2, 1) := by decide +kernel
theorem dX7_cancel_26 : decode cX7_cancel 26 = .ok (.aload_n 0, 1) := by decide +kernel
theorem dX7_cancel_27 : decode cX7_cancel 27 = .ok (.getfield 62, 3) := by decide +kernel
theorem dX7_cancel_30 : decode cX7_cancel 30 = .ok (.iload_n 2, 1) := by decide +kernel
theorem dX7_cancel_31 : decode cX7_cancel 31 = .ok (.iconst 1, 1) := by decide +kernel
theorem dX7_cancel_32 : decode cX7_cancel 32 = .ok (.bastore, 1) := by decide +kernel
theorem dX7_cancel_33 : decode cX7_cancel 33 = .ok (.aload_n 0, 1) := by decide +kernel
theorem dX7_cancel_34 : decode cX7_cancel 34 = .ok (.iload_n 1, 1) := by decide +kernel
theorem dX7_cancel_35 : decode cX7_cancel 35 = .ok (.iload_n 2, 1) := by decide +kernel
theorem dX7_cancel_36 : decode cX7_cancel 36 = .ok (.invokevirtual 208, 3) := by decide +kernel
theorem dX7_cancel_39 : decode cX7_cancel 39 = .ok (.ireturn, 1) := by decide +kernel
theorem lk_X7_cancel : LK yX7_cancel cX7_cancel 3 (some .int) 1 := ⟨qW_at 1580 (by decide +kernel) rfl, qW_at 78 (by decide +kernel) rfl, by decide, by decide, by decide +kernel⟩
theorem im_X7_cancel : Cond.instanceMethod yX7_cancel ∈ qW := qW_at 1578 (by decide +kernel) rfl
theorem se_X7_cancel : Cond.selects RX7 yX7_cancel yX7_cancel ∈ qW := qW_at 1579 (by decide +kernel) rfl
def F_X7_cancel (this : Nat) (its_ : Int32) : QX Int32 :=
  (xb (xb (xb (xb (xp (some this)) fun v5 => xb (xb (xp (some this)) fun v1 => xb (xp its_) fun v2 => xo 8 v1 fun q => F_X7_isMeeting q v2) fun v6 => xb (xb (xp (some this)) fun v3 => xb (xp its_) fun v4 => xo 8 v3 fun q => F_X7_isHeld q v4) fun v7 => xb (xp (1 : Int32)) fun v8 => xo 8 v5 fun q => F_X7_goes q v6 v7 v8) fun v9 => xp (decide (¬ v9 = 0))) fun v10 => xp (!v10)) fun v21 => if v21 then (xp (0 : Int32)) else
  (xb (xb (xp (some this)) fun v11 => xb (xp its_) fun v12 => xo 8 v11 fun q => F_X7_next q v12) fun to_13 =>
  (xb (xb (xb (xp (some this)) fun v14 => xgr 8 19 v14) fun v15 => xb (xp to_13) fun v16 => xb (xp (1 : Int32)) fun v17 => xsaz v15 v16 v17) fun _ =>
  (xb (xp (some this)) fun v18 => xb (xp its_) fun v19 => xb (xp to_13) fun v20 => xo 8 v18 fun q => F_X7_holds q v19 v20))))
set_option maxRecDepth 100000 in
set_option maxHeartbeats 4000000 in
theorem M_X7_cancel (this : Nat) (its_ : Int32) : MM yX7_cancel cX7_cancel 3 (some .int) 4 91 0 0 encI [.ref this, .int its_] (F_X7_cancel this its_) := by
  refine MM_of (env0 := [(0, va_rf (some this)), (1, .int its_)]) (by decide) (by exact Nat.le_of_ble_eq_true rfl) (by rfl) (fun k mm res X C hR hN hr hname h => ?_)
  have X : CX k cX7_cancel RX7 := X
  have hT : TH k (fun e m' => res = (.error e, m')) := TH_of C
  have htr := C.2.2.2.1
  unfold F_X7_cancel at h
  exact SB_go (T := fun e m' => res = (.error e, m')) (RET := fun v m' => res = (.ok v, m')) (SB_if (CE_not (CE_1 (XE_4 (pB := pI) wR wI wI (L_aload_n (r := (some this)) 0 X dX7_cancel_0 rfl rfl) (XE_2 (pB := pI) wR (L_aload_n (r := (some this)) 0 X dX7_cancel_1 rfl rfl) (L_iload_n (x := its_) 1 X dX7_cancel_2 rfl rfl) (fun v0 v1 st mm a b hd hc hs h => g_callVo (st := st) (cI := 8) X hT htr rfl (fun q => M_X7_isMeeting q v1) lk_X7_isMeeting im_X7_isMeeting se_X7_isMeeting ml_X7_211 rfl (by rw [hR]; exact ⟨Nat.le_of_ble_eq_true rfl, Nat.le_of_ble_eq_true rfl⟩) (Nat.le_trans hd (by decide)) ⟨hc, hs⟩ dX7_cancel_3 h)) (XE_2 (pB := pI) wR (L_aload_n (r := (some this)) 0 X dX7_cancel_6 rfl rfl) (L_iload_n (x := its_) 1 X dX7_cancel_7 rfl rfl) (fun v0 v1 st mm a b hd hc hs h => g_callVo (st := st) (cI := 8) X hT htr rfl (fun q => M_X7_isHeld q v1) lk_X7_isHeld im_X7_isHeld se_X7_isHeld ml_X7_214 rfl (by rw [hR]; exact ⟨Nat.le_of_ble_eq_true rfl, Nat.le_of_ble_eq_true rfl⟩) (Nat.le_trans hd (by decide)) ⟨hc, hs⟩ dX7_cancel_8 h)) (L_iconst (v := 1) X dX7_cancel_11 (by decide)) (fun v0 v1 v2 v3 st mm a b hd hc hs h => g_callVo (st := st) (cI := 8) X hT htr rfl (fun q => M_X7_goes q v1 v2 v3) lk_X7_goes im_X7_goes se_X7_goes ml_X7_153 rfl (by rw [hR]; exact ⟨Nat.le_of_ble_eq_true rfl, Nat.le_of_ble_eq_true rfl⟩) (Nat.le_trans hd (by decide)) ⟨hc, hs⟩ dX7_cancel_12 h)) (Z_ne_T X dX7_cancel_15 (by decide))))
  (SB_retI X C hr dX7_cancel_19 (L_iconst (v := 0) X dX7_cancel_18 (by decide)))
  (SB_let (XE_2 (pB := pI) wR (L_aload_n (r := (some this)) 0 X dX7_cancel_20 rfl rfl) (L_iload_n (x := its_) 1 X dX7_cancel_21 rfl rfl) (fun v0 v1 st mm a b hd hc hs h => g_callVo (st := st) (cI := 8) X hT htr rfl (fun q => M_X7_next q v1) lk_X7_next im_X7_next se_X7_next ml_X7_217 rfl (by rw [hR]; exact ⟨Nat.le_of_ble_eq_true rfl, Nat.le_of_ble_eq_true rfl⟩) (Nat.le_trans hd (by decide)) ⟨hc, hs⟩ dX7_cancel_22 h)) (S_istore_n (ev := fun to_13 => [(2, .int to_13), (0, va_rf (some this)), (1, .int its_)]) X dX7_cancel_25 rfl (by rw [hN]; decide) (fun _ => rfl)) fun to_13 =>
  (SB_do (XE_3 wR wI (XE_1 (L_aload_n (r := (some this)) 1 X dX7_cancel_26 rfl rfl) (O_gr (c := 8) (j := 19) X rfl inW7 (by decide) fl_X7_62 rfl dX7_cancel_27)) (L_iload_n (x := to_13) 0 X dX7_cancel_30 rfl rfl) (L_iconst (v := 1) X dX7_cancel_31 (by decide)) (O_saz X dX7_cancel_32))
  (SB_retI X C hr dX7_cancel_39 (XE_3 (pB := pI) wR wI (L_aload_n (r := (some this)) 1 X dX7_cancel_33 rfl rfl) (L_iload_n (x := its_) 2 X dX7_cancel_34 rfl rfl) (L_iload_n (x := to_13) 0 X dX7_cancel_35 rfl rfl) (fun v0 v1 v2 st mm a b hd hc hs h => g_callVo (st := st) (cI := 8) X hT htr rfl (fun q => M_X7_holds q v1 v2) lk_X7_holds im_X7_holds se_X7_holds ml_X7_208 rfl (by rw [hR]; exact ⟨Nat.le_of_ble_eq_true rfl, Nat.le_of_ble_eq_true rfl⟩) (Nat.le_trans hd (by decide)) ⟨hc, hs⟩ dX7_cancel_36 h)))))) h (by rw [hR]; decide) (by rw [hR]; decide)
theorem dX7_isLater_0 : decode cX7_isLater 0 = .ok (.iload_n 2, 1) := by decide +kernel
theorem dX7_isLater_1 : decode cX7_isLater 1 = .ok (.iconst (-1), 1) := by decide +kernel
theorem dX7_isLater_2 : decode cX7_isLater 2 = .ok (.if_icmp .eq 48, 3) := by decide +kernel
theorem dX7_isLater_5 : decode cX7_isLater 5 = .ok (.aload_n 0, 1) := by decide +kernel
theorem dX7_isLater_6 : decode cX7_isLater 6 = .ok (.getfield 108, 3) := by decide +kernel
theorem dX7_isLater_9 : decode cX7_isLater 9 = .ok (.iload_n 1, 1) := by decide +kernel
theorem dX7_isLater_10 : decode cX7_isLater 10 = .ok (.iaload, 1) := by decide +kernel
theorem dX7_isLater_11 : decode cX7_isLater 11 = .ok (.aload_n 0, 1) := by decide +kernel
theorem dX7_isLater_12 : decode cX7_isLater 12 = .ok (.getfield 108, 3) := by decide +kernel
theorem dX7_isLater_15 : decode cX7_isLater 15 = .ok (.iload_n 2, 1) := by decide +kernel
theorem dX7_isLater_16 : decode cX7_isLater 16 = .ok (.iaload, 1) := by decide +kernel
theorem dX7_isLater_17 : decode cX7_isLater 17 = .ok (.if_icmp .gt 33, 3) := by decide +kernel
theorem dX7_isLater_20 : decode cX7_isLater 20 = .ok (.aload_n 0, 1) := by decide +kernel
theorem dX7_isLater_21 : decode cX7_isLater 21 = .ok (.getfield 108, 3) := by decide +kernel
theorem dX7_isLater_24 : decode cX7_isLater 24 = .ok (.iload_n 1, 1) := by decide +kernel
theorem dX7_isLater_25 : decode cX7_isLater 25 = .ok (.iaload, 1) := by decide +kernel
theorem dX7_isLater_26 : decode cX7_isLater 26 = .ok (.aload_n 0, 1) := by decide +kernel
theorem dX7_isLater_27 : decode cX7_isLater 27 = .ok (.getfield 108, 3) := by decide +kernel
theorem dX7_isLater_30 : decode cX7_isLater 30 = .ok (.iload_n 2, 1) := by decide +kernel
theorem dX7_isLater_31 : decode cX7_isLater 31 = .ok (.iaload, 1) := by decide +kernel
theorem dX7_isLater_32 : decode cX7_isLater 32 = .ok (.if_icmp .ne 22, 3) := by decide +kernel
theorem dX7_isLater_35 : decode cX7_isLater 35 = .ok (.aload_n 0, 1) := by decide +kernel
theorem dX7_isLater_36 : decode cX7_isLater 36 = .ok (.getfield 117, 3) := by decide +kernel
theorem dX7_isLater_39 : decode cX7_isLater 39 = .ok (.iload_n 1, 1) := by decide +kernel
theorem dX7_isLater_40 : decode cX7_isLater 40 = .ok (.iaload, 1) := by decide +kernel
theorem dX7_isLater_41 : decode cX7_isLater 41 = .ok (.aload_n 0, 1) := by decide +kernel
theorem dX7_isLater_42 : decode cX7_isLater 42 = .ok (.getfield 117, 3) := by decide +kernel
theorem dX7_isLater_45 : decode cX7_isLater 45 = .ok (.iload_n 2, 1) := by decide +kernel
theorem dX7_isLater_46 : decode cX7_isLater 46 = .ok (.iaload, 1) := by decide +kernel
theorem dX7_isLater_47 : decode cX7_isLater 47 = .ok (.if_icmp .le 7, 3) := by decide +kernel
theorem dX7_isLater_50 : decode cX7_isLater 50 = .ok (.iconst 1, 1) := by decide +kernel
theorem dX7_isLater_51 : decode cX7_isLater 51 = .ok (.goto 4, 3) := by decide +kernel
theorem dX7_isLater_54 : decode cX7_isLater 54 = .ok (.iconst 0, 1) := by decide +kernel
theorem dX7_isLater_55 : decode cX7_isLater 55 = .ok (.ireturn, 1) := by decide +kernel
theorem lk_X7_isLater : LK yX7_isLater cX7_isLater 3 (some .boolean) 2 := ⟨qW_at 1596 (by decide +kernel) rfl, qW_at 78 (by decide +kernel) rfl, by decide, by decide, by decide +kernel⟩
theorem im_X7_isLater : Cond.instanceMethod yX7_isLater ∈ qW := qW_at 1595 (by decide +kernel) rfl
theorem se_X7_isLater : Cond.selects RX7 yX7_isLater yX7_isLater ∈ qW := qW_at 46 (by decide +kernel) rfl
def F_X7_isLater (this : Nat) (one_ : Int32) (than_ : Int32) : QX Int32 :=
  (xb (xb (xb (xb (xb (xp than_) fun v1 => xb (xp (-1 : Int32)) fun v2 => xp (decide (v1 = v2))) fun v11 => if v11 then xp true else (xb (xb (xb (xp (some this)) fun v3 => xgr 8 36 v3) fun v4 => xb (xp one_) fun v5 => xai 0 v4 v5) fun v6 => xb (xb (xb (xp (some this)) fun v7 => xgr 8 36 v7) fun v8 => xb (xp than_) fun v9 => xai 0 v8 v9) fun v10 => xp (decide (v10 < v6)))) fun v29 => if v29 then xp true else (xb (xb (xb (xb (xp (some this)) fun v12 => xgr 8 36 v12) fun v13 => xb (xp one_) fun v14 => xai 0 v13 v14) fun v15 => xb (xb (xb (xp (some this)) fun v16 => xgr 8 36 v16) fun v17 => xb (xp than_) fun v18 => xai 0 v17 v18) fun v19 => xp (decide (v15 = v19))) fun v28 => if v28 then (xb (xb (xb (xp (some this)) fun v20 => xgr 8 39 v20) fun v21 => xb (xp one_) fun v22 => xai 0 v21 v22) fun v23 => xb (xb (xb (xp (some this)) fun v24 => xgr 8 39 v24) fun v25 => xb (xp than_) fun v26 => xai 0 v25 v26) fun v27 => xp (decide (v27 < v23))) else xp false)) fun v30 => xp (b2i v30)) xz)
set_option maxRecDepth 100000 in
set_option maxHeartbeats 4000000 in
theorem M_X7_isLater (this : Nat) (one_ : Int32) (than_ : Int32) : MM yX7_isLater cX7_isLater 3 (some .boolean) 0 0 0 0 encI [.ref this, .int one_, .int than_] (F_X7_isLater this one_ than_) := by
  refine MM_of (env0 := [(0, va_rf (some this)), (1, .int one_), (2, .int than_)]) (by decide) (by exact Nat.le_of_ble_eq_true rfl) (by rfl) (fun k mm res X C hR hN hr hname h => ?_)
  have X : CX k cX7_isLater RX7 := X
  have hT : TH k (fun e m' => res = (.error e, m')) := TH_of C
  have htr := C.2.2.2.1
  unfold F_X7_isLater at h
  exact SB_go (T := fun e m' => res = (.error e, m')) (RET := fun v m' => res = (.ok v, m')) (SB_retZ X C hr dX7_isLater_55 (XE_b2i (CE_or (CE_or (CE_2 wI (L_iload_n (x := than_) 2 X dX7_isLater_0 rfl rfl) (L_iconst (v := (-1)) X dX7_isLater_1 (by decide)) (C_eq_T X dX7_isLater_2 (by decide))) (CE_2 wI (XE_2 wR (XE_1 (L_aload_n (r := (some this)) 0 X dX7_isLater_5 rfl rfl) (O_gr (c := 8) (j := 36) X rfl inW7 (by decide) fl_X7_108 rfl dX7_isLater_6)) (L_iload_n (x := one_) 1 X dX7_isLater_9 rfl rfl) (O_ai X dX7_isLater_10)) (XE_2 wR (XE_1 (L_aload_n (r := (some this)) 0 X dX7_isLater_11 rfl rfl) (O_gr (c := 8) (j := 36) X rfl inW7 (by decide) fl_X7_108 rfl dX7_isLater_12)) (L_iload_n (x := than_) 2 X dX7_isLater_15 rfl rfl) (O_ai X dX7_isLater_16)) (C_gt_T X dX7_isLater_17 (by decide)))) (CE_and (CE_2 wI (XE_2 wR (XE_1 (L_aload_n (r := (some this)) 0 X dX7_isLater_20 rfl rfl) (O_gr (c := 8) (j := 36) X rfl inW7 (by decide) fl_X7_108 rfl dX7_isLater_21)) (L_iload_n (x := one_) 1 X dX7_isLater_24 rfl rfl) (O_ai X dX7_isLater_25)) (XE_2 wR (XE_1 (L_aload_n (r := (some this)) 0 X dX7_isLater_26 rfl rfl) (O_gr (c := 8) (j := 36) X rfl inW7 (by decide) fl_X7_108 rfl dX7_isLater_27)) (L_iload_n (x := than_) 2 X dX7_isLater_30 rfl rfl) (O_ai X dX7_isLater_31)) (C_eq_F X dX7_isLater_32 (by decide))) (CE_2 wI (XE_2 wR (XE_1 (L_aload_n (r := (some this)) 0 X dX7_isLater_35 rfl rfl) (O_gr (c := 8) (j := 39) X rfl inW7 (by decide) fl_X7_117 rfl dX7_isLater_36)) (L_iload_n (x := one_) 1 X dX7_isLater_39 rfl rfl) (O_ai X dX7_isLater_40)) (XE_2 wR (XE_1 (L_aload_n (r := (some this)) 0 X dX7_isLater_41 rfl rfl) (O_gr (c := 8) (j := 39) X rfl inW7 (by decide) fl_X7_117 rfl dX7_isLater_42)) (L_iload_n (x := than_) 2 X dX7_isLater_45 rfl rfl) (O_ai X dX7_isLater_46)) (C_gt_F X dX7_isLater_47 (by decide))))) (S_b1 X dX7_isLater_50 dX7_isLater_51 (by decide)) (S_b0 X dX7_isLater_54))) h (by rw [hR]; decide) (by rw [hR]; decide)
