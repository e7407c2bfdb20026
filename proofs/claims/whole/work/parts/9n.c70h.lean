/-! the law's cases 42 to 42 -/
theorem dL_law_3150 : decode cL_law 3150 = .ok (.aload_n 1, 1) := by decide +kernel
theorem dL_law_3151 : decode cL_law 3151 = .ok (.aload_n 0, 1) := by decide +kernel
theorem dL_law_3152 : decode cL_law 3152 = .ok (.iload 4, 2) := by decide +kernel
theorem dL_law_3154 : decode cL_law 3154 = .ok (.iconst 1, 1) := by decide +kernel
theorem dL_law_3155 : decode cL_law 3155 = .ok (.iadd, 1) := by decide +kernel
theorem dL_law_3156 : decode cL_law 3156 = .ok (.iaload, 1) := by decide +kernel
theorem dL_law_3157 : decode cL_law 3157 = .ok (.aload_n 0, 1) := by decide +kernel
theorem dL_law_3158 : decode cL_law 3158 = .ok (.iload 4, 2) := by decide +kernel
theorem dL_law_3160 : decode cL_law 3160 = .ok (.iconst 2, 1) := by decide +kernel
theorem dL_law_3161 : decode cL_law 3161 = .ok (.iadd, 1) := by decide +kernel
theorem dL_law_3162 : decode cL_law 3162 = .ok (.iaload, 1) := by decide +kernel
theorem dL_law_3163 : decode cL_law 3163 = .ok (.aload_n 0, 1) := by decide +kernel
theorem dL_law_3164 : decode cL_law 3164 = .ok (.iload 4, 2) := by decide +kernel
theorem dL_law_3166 : decode cL_law 3166 = .ok (.iconst 3, 1) := by decide +kernel
theorem dL_law_3167 : decode cL_law 3167 = .ok (.iadd, 1) := by decide +kernel
theorem dL_law_3168 : decode cL_law 3168 = .ok (.iaload, 1) := by decide +kernel
theorem dL_law_3169 : decode cL_law 3169 = .ok (.aload_n 3, 1) := by decide +kernel
theorem dL_law_3170 : decode cL_law 3170 = .ok (.invokestatic 291, 3) := by decide +kernel
theorem dL_law_3173 : decode cL_law 3173 = .ok (.istore 5, 2) := by decide +kernel
theorem dL_law_3175 : decode cL_law 3175 = .ok (.aload_n 2, 1) := by decide +kernel
theorem dL_law_3176 : decode cL_law 3176 = .ok (.aload_n 0, 1) := by decide +kernel
theorem dL_law_3177 : decode cL_law 3177 = .ok (.iload 4, 2) := by decide +kernel
theorem dL_law_3179 : decode cL_law 3179 = .ok (.iconst 1, 1) := by decide +kernel
theorem dL_law_3180 : decode cL_law 3180 = .ok (.iadd, 1) := by decide +kernel
theorem dL_law_3181 : decode cL_law 3181 = .ok (.iaload, 1) := by decide +kernel
theorem dL_law_3182 : decode cL_law 3182 = .ok (.aload_n 0, 1) := by decide +kernel
theorem dL_law_3183 : decode cL_law 3183 = .ok (.iload 4, 2) := by decide +kernel
theorem dL_law_3185 : decode cL_law 3185 = .ok (.iconst 2, 1) := by decide +kernel
theorem dL_law_3186 : decode cL_law 3186 = .ok (.iadd, 1) := by decide +kernel
theorem dL_law_3187 : decode cL_law 3187 = .ok (.iaload, 1) := by decide +kernel
theorem dL_law_3188 : decode cL_law 3188 = .ok (.aload_n 0, 1) := by decide +kernel
theorem dL_law_3189 : decode cL_law 3189 = .ok (.iload 4, 2) := by decide +kernel
theorem dL_law_3191 : decode cL_law 3191 = .ok (.iconst 3, 1) := by decide +kernel
theorem dL_law_3192 : decode cL_law 3192 = .ok (.iadd, 1) := by decide +kernel
theorem dL_law_3193 : decode cL_law 3193 = .ok (.iaload, 1) := by decide +kernel
theorem dL_law_3194 : decode cL_law 3194 = .ok (.invokevirtual 293, 3) := by decide +kernel
theorem dL_law_3197 : decode cL_law 3197 = .ok (.istore 6, 2) := by decide +kernel
theorem dL_law_3199 : decode cL_law 3199 = .ok (.aload_n 2, 1) := by decide +kernel
theorem dL_law_3200 : decode cL_law 3200 = .ok (.invokevirtual 157, 3) := by decide +kernel
theorem dL_law_3203 : decode cL_law 3203 = .ok (.iload 5, 2) := by decide +kernel
theorem dL_law_3205 : decode cL_law 3205 = .ok (.if_icmp .eq 5, 3) := by decide +kernel
theorem dL_law_3210 : decode cL_law 3210 = .ok (.iload 5, 2) := by decide +kernel
theorem dL_law_3212 : decode cL_law 3212 = .ok (.ifCond .ne 15, 3) := by decide +kernel
theorem dL_law_3215 : decode cL_law 3215 = .ok (.aload_n 3, 1) := by decide +kernel
theorem dL_law_3216 : decode cL_law 3216 = .ok (.iconst 0, 1) := by decide +kernel
theorem dL_law_3217 : decode cL_law 3217 = .ok (.laload, 1) := by decide +kernel
theorem dL_law_3218 : decode cL_law 3218 = .ok (.iload 6, 2) := by decide +kernel
theorem dL_law_3220 : decode cL_law 3220 = .ok (.i2l, 1) := by decide +kernel
theorem dL_law_3221 : decode cL_law 3221 = .ok (.lcmp, 1) := by decide +kernel
theorem dL_law_3222 : decode cL_law 3222 = .ok (.ifCond .eq 5, 3) := by decide +kernel
theorem dL_law_3227 : decode cL_law 3227 = .ok (.goto 3, 3) := by decide +kernel
set_option maxRecDepth 100000 in
set_option maxHeartbeats 3200000 in
theorem lc_42 {k : QC} {mm : QM} {a b sb L sv i : Nat} {xs : Nat → Int32} {t : Int} (hL : LX k sb L xs) (h : LINV sv t mm) (ht : t + 2 ≤ 600) (hi : i + 6 ≤ L) (ha : a + 20 ≤ 601024) (hb : b + 900 ≤ 7293034) (hnext : ∀ m3, LINV sv (t + 1) m3 → GG k (lenv sb sv i) [] m3 3230 (a + 20) (b + 900)) : GG k (lenv sb sv i) [] mm 3150 a b := by
  have X := hL.1
  have hR := hL.2.1
  have hN := hL.2.2.1
  have htr := hL.2.2.2.1
  have hT : TH k (fun _ _ => False) := TH_F
  refine t_al 2 X dL_law_3150 rfl rfl ?_
  refine t_arg (p0 := 1) (p4 := 0) hL (by decide) (by decide) hi rfl rfl dL_law_3151 dL_law_3152 dL_law_3154 dL_law_3155 dL_law_3156 ?_
  refine t_arg (p0 := 1) (p4 := 0) hL (by decide) (by decide) hi rfl rfl dL_law_3157 dL_law_3158 dL_law_3160 dL_law_3161 dL_law_3162 ?_
  refine t_arg (p0 := 1) (p4 := 0) hL (by decide) (by decide) hi rfl rfl dL_law_3163 dL_law_3164 dL_law_3166 dL_law_3167 dL_law_3168 ?_
  refine t_al 4 X dL_law_3169 rfl rfl ?_
  refine h_callS (rok (AWL sv t (F_X7_changeAt (sv + 20) (xs (i + 1)) (xs (i + 2)) (xs (i + 3))) (fun _ => True))) (st := []) X hT htr (E_L_changeAt sv (xs (i + 1)) (xs (i + 2)) (xs (i + 3))) lkh_changeAt stl_changeAt (qW_at 1285 (by decide +kernel) rfl) rfl (by rw [hR]; exact ⟨Nat.le_of_ble_eq_true rfl, Nat.le_of_ble_eq_true rfl⟩) (by exact Nat.le_of_ble_eq_true rfl) (by rw [hR]; exact ⟨by show _ ≤ 601024; omega, by show _ ≤ 7293034; omega⟩) dL_law_3170 (by rfl) (W_changeAt h ht (xs (i + 1)) (xs (i + 2)) (xs (i + 3))) (fun _ _ q => rok_x q) (fun v m2 q => ?_)
  obtain ⟨_, hv0, kk, w, G', S', S0, rfl, hk, hC, hs, h45, hR0, h62, hout, hZ, hy⟩ := q
  cases hv0
  refine g_istore (env' := [(5, .int (I kk)), (4, .int (I (i : Int))), (0, .ref sb), (1, .ref sv), (2, .ref (sv + 20)), (3, .ref (sv + 62))]) X dL_law_3173 (by rw [hN]; decide) rfl ?_
  refine t_al 4 X dL_law_3175 rfl rfl ?_
  refine t_arg (p0 := 2) (p4 := 1) hL (by decide) (by decide) hi rfl rfl dL_law_3176 dL_law_3177 dL_law_3179 dL_law_3180 dL_law_3181 ?_
  refine t_arg (p0 := 2) (p4 := 1) hL (by decide) (by decide) hi rfl rfl dL_law_3182 dL_law_3183 dL_law_3185 dL_law_3186 dL_law_3187 ?_
  refine t_arg (p0 := 2) (p4 := 1) hL (by decide) (by decide) hi rfl rfl dL_law_3188 dL_law_3189 dL_law_3191 dL_law_3192 dL_law_3193 ?_
  obtain ⟨m3, e3, hR3, hF⟩ := hy m2 hR0
  refine g_callV (st := []) (q := sv + 20) (av := [.int (xs (i + 1)), .int (xs (i + 2)), .int (xs (i + 3))]) (x := F_X7_changeAt (sv + 20) (xs (i + 1)) (xs (i + 2)) (xs (i + 3))) (T := fun _ _ => False) X hT htr rfl hR0.ob (M_X7_changeAt (sv + 20) (xs (i + 1)) (xs (i + 2)) (xs (i + 3))) lk_X7_changeAt im_X7_changeAt se_X7_changeAt (qW_at 1843 (by decide +kernel) rfl) rfl (by rw [hR]; exact ⟨Nat.le_of_ble_eq_true rfl, Nat.le_of_ble_eq_true rfl⟩) (by exact Nat.le_of_ble_eq_true rfl) (by rw [hR]; exact ⟨by show _ ≤ 601024; omega, by show _ ≤ 7293034; omega⟩) dL_law_3194 ?_
  unfold qwp
  rw [e3]
  show GG k _ (.int w :: []) m3 _ _ _
  refine g_istore (env' := [(6, .int w), (5, .int (I kk)), (4, .int (I (i : Int))), (0, .ref sb), (1, .ref sv), (2, .ref (sv + 20)), (3, .ref (sv + 62))]) X dL_law_3197 (by rw [hN]; decide) rfl ?_
  refine t_al 5 X dL_law_3199 rfl rfl ?_
  refine g_callV (st := []) (q := sv + 20) (av := []) (x := F_X7_thrown (sv + 20)) (T := fun _ _ => False) X hT htr rfl hR3.ob (M_X7_thrown (sv + 20)) lk_X7_thrown im_X7_thrown se_X7_thrown (qW_at 1440 (by decide +kernel) rfl) rfl (by rw [hR]; exact ⟨Nat.le_of_ble_eq_true rfl, Nat.le_of_ble_eq_true rfl⟩) (by exact Nat.le_of_ble_eq_true rfl) (by rw [hR]; exact ⟨by show _ ≤ 601024; omega, by show _ ≤ 7293034; omega⟩) dL_law_3200 ?_
  unfold qwp
  rw [th_val hR3, h45]
  show GG k _ (.int (I kk) :: []) m3 _ _ _
  refine g_iload 1 X dL_law_3203 rfl ?_
  refine t_ceqT (tgt := 3210) X dL_law_3205 (by decide) rfl ?_
  refine g_iload 1 X dL_law_3210 rfl ?_
  have hI : LINV sv (t + 1) m3 := ⟨G', S', hC.fm hF, hs, hR3, (hF.ty _).trans h62⟩
  by_cases hkk : kk = 0
  case neg =>
    refine t_neT (tgt := 3227) X dL_law_3212 (by decide) (fun q => hkk ((I_inj (a := kk) (b := 0) (by omega) (by omega) (by omega) (by omega)).mp q)) ?_
    refine g_goto (tgt := 3230) X dL_law_3227 (by decide) ?_
    exact GG_sub [2, 3, 4, 5, 6] rfl (GG_widen (by omega) (by omega) (hnext m3 hI))
  subst hkk
  refine t_neF 3227 X dL_law_3212 (by decide) (by decide) ?_
  refine t_al 6 X dL_law_3215 rfl rfl ?_
  refine g_iconst (v := I 0) X dL_law_3216 rfl ?_
  refine g_lald (q := sv + 62) (n := 1) X ((hF.ty _).trans h62) (by intro q; rcases q with q | q <;> exact absurd q (by decide)) dL_law_3217 ?_
  rw [show (I 0).toNatClampNeg = 0 from by decide, hF.al _ (Or.inr (by omega)), hout rfl]
  refine g_iload 0 X dL_law_3218 rfl ?_
  refine g_i2l X dL_law_3220 ?_
  refine g_lcmp X dL_law_3221 ?_
  refine t_eqT (tgt := 3227) X dL_law_3222 (by decide) (q_cmp0.mpr rfl) ?_
  refine g_goto (tgt := 3230) X dL_law_3227 (by decide) ?_
  exact GG_sub [2, 3, 4, 5, 6] rfl (GG_widen (by omega) (by omega) (hnext m3 hI))
