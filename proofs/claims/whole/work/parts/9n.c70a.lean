/-! the law's cases 0 to 5 -/
theorem dL_law_228 : decode cL_law 228 = .ok (.aload_n 1, 1) := by decide +kernel
theorem dL_law_229 : decode cL_law 229 = .ok (.aload_n 0, 1) := by decide +kernel
theorem dL_law_230 : decode cL_law 230 = .ok (.iload 4, 2) := by decide +kernel
theorem dL_law_232 : decode cL_law 232 = .ok (.iconst 1, 1) := by decide +kernel
theorem dL_law_233 : decode cL_law 233 = .ok (.iadd, 1) := by decide +kernel
theorem dL_law_234 : decode cL_law 234 = .ok (.iaload, 1) := by decide +kernel
theorem dL_law_235 : decode cL_law 235 = .ok (.aload_n 0, 1) := by decide +kernel
theorem dL_law_236 : decode cL_law 236 = .ok (.iload 4, 2) := by decide +kernel
theorem dL_law_238 : decode cL_law 238 = .ok (.iconst 2, 1) := by decide +kernel
theorem dL_law_239 : decode cL_law 239 = .ok (.iadd, 1) := by decide +kernel
theorem dL_law_240 : decode cL_law 240 = .ok (.iaload, 1) := by decide +kernel
theorem dL_law_241 : decode cL_law 241 = .ok (.aload_n 3, 1) := by decide +kernel
theorem dL_law_242 : decode cL_law 242 = .ok (.invokestatic 151, 3) := by decide +kernel
theorem dL_law_245 : decode cL_law 245 = .ok (.istore 5, 2) := by decide +kernel
theorem dL_law_247 : decode cL_law 247 = .ok (.aload_n 2, 1) := by decide +kernel
theorem dL_law_248 : decode cL_law 248 = .ok (.aload_n 0, 1) := by decide +kernel
theorem dL_law_249 : decode cL_law 249 = .ok (.iload 4, 2) := by decide +kernel
theorem dL_law_251 : decode cL_law 251 = .ok (.iconst 1, 1) := by decide +kernel
theorem dL_law_252 : decode cL_law 252 = .ok (.iadd, 1) := by decide +kernel
theorem dL_law_253 : decode cL_law 253 = .ok (.iaload, 1) := by decide +kernel
theorem dL_law_254 : decode cL_law 254 = .ok (.aload_n 0, 1) := by decide +kernel
theorem dL_law_255 : decode cL_law 255 = .ok (.iload 4, 2) := by decide +kernel
theorem dL_law_257 : decode cL_law 257 = .ok (.iconst 2, 1) := by decide +kernel
theorem dL_law_258 : decode cL_law 258 = .ok (.iadd, 1) := by decide +kernel
theorem dL_law_259 : decode cL_law 259 = .ok (.iaload, 1) := by decide +kernel
theorem dL_law_260 : decode cL_law 260 = .ok (.invokevirtual 156, 3) := by decide +kernel
theorem dL_law_263 : decode cL_law 263 = .ok (.istore 6, 2) := by decide +kernel
theorem dL_law_265 : decode cL_law 265 = .ok (.aload_n 2, 1) := by decide +kernel
theorem dL_law_266 : decode cL_law 266 = .ok (.invokevirtual 157, 3) := by decide +kernel
theorem dL_law_269 : decode cL_law 269 = .ok (.iload 5, 2) := by decide +kernel
theorem dL_law_271 : decode cL_law 271 = .ok (.if_icmp .eq 5, 3) := by decide +kernel
theorem dL_law_276 : decode cL_law 276 = .ok (.iload 5, 2) := by decide +kernel
theorem dL_law_278 : decode cL_law 278 = .ok (.ifCond .ne 15, 3) := by decide +kernel
theorem dL_law_281 : decode cL_law 281 = .ok (.aload_n 3, 1) := by decide +kernel
theorem dL_law_282 : decode cL_law 282 = .ok (.iconst 0, 1) := by decide +kernel
theorem dL_law_283 : decode cL_law 283 = .ok (.laload, 1) := by decide +kernel
theorem dL_law_284 : decode cL_law 284 = .ok (.iload 6, 2) := by decide +kernel
theorem dL_law_286 : decode cL_law 286 = .ok (.i2l, 1) := by decide +kernel
theorem dL_law_287 : decode cL_law 287 = .ok (.lcmp, 1) := by decide +kernel
theorem dL_law_288 : decode cL_law 288 = .ok (.ifCond .eq 5, 3) := by decide +kernel
theorem dL_law_293 : decode cL_law 293 = .ok (.goto 2937, 3) := by decide +kernel
set_option maxRecDepth 100000 in
set_option maxHeartbeats 3200000 in
theorem lc_0 {k : QC} {mm : QM} {a b sb L sv i : Nat} {xs : Nat → Int32} {t : Int} (hL : LX k sb L xs) (h : LINV sv t mm) (ht : t + 2 ≤ 600) (hi : i + 6 ≤ L) (ha : a + 20 ≤ 601024) (hb : b + 900 ≤ 7293034) (hnext : ∀ m3, LINV sv (t + 1) m3 → GG k (lenv sb sv i) [] m3 3230 (a + 20) (b + 900)) : GG k (lenv sb sv i) [] mm 228 a b := by
  have X := hL.1
  have hR := hL.2.1
  have hN := hL.2.2.1
  have htr := hL.2.2.2.1
  have hT : TH k (fun _ _ => False) := TH_F
  refine t_al 2 X dL_law_228 rfl rfl ?_
  refine t_arg (p0 := 1) (p4 := 0) hL (by decide) (by decide) hi rfl rfl dL_law_229 dL_law_230 dL_law_232 dL_law_233 dL_law_234 ?_
  refine t_arg (p0 := 1) (p4 := 0) hL (by decide) (by decide) hi rfl rfl dL_law_235 dL_law_236 dL_law_238 dL_law_239 dL_law_240 ?_
  refine t_al 4 X dL_law_241 rfl rfl ?_
  refine h_callS (rok (AWL sv t (F_X7_setOffset (sv + 20) (xs (i + 1)) (xs (i + 2))) (fun _ => True))) (st := []) X hT htr (E_L_setOffset sv (xs (i + 1)) (xs (i + 2))) lkh_setOffset stl_setOffset (qW_at 192 (by decide +kernel) rfl) rfl (by rw [hR]; exact ⟨Nat.le_of_ble_eq_true rfl, Nat.le_of_ble_eq_true rfl⟩) (by exact Nat.le_of_ble_eq_true rfl) (by rw [hR]; exact ⟨by show _ ≤ 601024; omega, by show _ ≤ 7293034; omega⟩) dL_law_242 (by rfl) (W_setOffset h ht (xs (i + 1)) (xs (i + 2))) (fun _ _ q => rok_x q) (fun v m2 q => ?_)
  obtain ⟨_, hv0, kk, w, G', S', S0, rfl, hk, hC, hs, h45, hR0, h62, hout, hZ, hy⟩ := q
  cases hv0
  refine g_istore (env' := [(5, .int (I kk)), (4, .int (I (i : Int))), (0, .ref sb), (1, .ref sv), (2, .ref (sv + 20)), (3, .ref (sv + 62))]) X dL_law_245 (by rw [hN]; decide) rfl ?_
  refine t_al 4 X dL_law_247 rfl rfl ?_
  refine t_arg (p0 := 2) (p4 := 1) hL (by decide) (by decide) hi rfl rfl dL_law_248 dL_law_249 dL_law_251 dL_law_252 dL_law_253 ?_
  refine t_arg (p0 := 2) (p4 := 1) hL (by decide) (by decide) hi rfl rfl dL_law_254 dL_law_255 dL_law_257 dL_law_258 dL_law_259 ?_
  obtain ⟨m3, e3, hR3, hF⟩ := hy m2 hR0
  refine g_callV (st := []) (q := sv + 20) (av := [.int (xs (i + 1)), .int (xs (i + 2))]) (x := F_X7_setOffset (sv + 20) (xs (i + 1)) (xs (i + 2))) (T := fun _ _ => False) X hT htr rfl hR0.ob (M_X7_setOffset (sv + 20) (xs (i + 1)) (xs (i + 2))) lk_X7_setOffset im_X7_setOffset se_X7_setOffset (qW_at 1444 (by decide +kernel) rfl) rfl (by rw [hR]; exact ⟨Nat.le_of_ble_eq_true rfl, Nat.le_of_ble_eq_true rfl⟩) (by exact Nat.le_of_ble_eq_true rfl) (by rw [hR]; exact ⟨by show _ ≤ 601024; omega, by show _ ≤ 7293034; omega⟩) dL_law_260 ?_
  unfold qwp
  rw [e3]
  show GG k _ (.int w :: []) m3 _ _ _
  refine g_istore (env' := [(6, .int w), (5, .int (I kk)), (4, .int (I (i : Int))), (0, .ref sb), (1, .ref sv), (2, .ref (sv + 20)), (3, .ref (sv + 62))]) X dL_law_263 (by rw [hN]; decide) rfl ?_
  refine t_al 5 X dL_law_265 rfl rfl ?_
  refine g_callV (st := []) (q := sv + 20) (av := []) (x := F_X7_thrown (sv + 20)) (T := fun _ _ => False) X hT htr rfl hR3.ob (M_X7_thrown (sv + 20)) lk_X7_thrown im_X7_thrown se_X7_thrown (qW_at 1440 (by decide +kernel) rfl) rfl (by rw [hR]; exact ⟨Nat.le_of_ble_eq_true rfl, Nat.le_of_ble_eq_true rfl⟩) (by exact Nat.le_of_ble_eq_true rfl) (by rw [hR]; exact ⟨by show _ ≤ 601024; omega, by show _ ≤ 7293034; omega⟩) dL_law_266 ?_
  unfold qwp
  rw [th_val hR3, h45]
  show GG k _ (.int (I kk) :: []) m3 _ _ _
  refine g_iload 1 X dL_law_269 rfl ?_
  refine t_ceqT (tgt := 276) X dL_law_271 (by decide) rfl ?_
  refine g_iload 1 X dL_law_276 rfl ?_
  have hI : LINV sv (t + 1) m3 := ⟨G', S', hC.fm hF, hs, hR3, (hF.ty _).trans h62⟩
  by_cases hkk : kk = 0
  case neg =>
    refine t_neT (tgt := 293) X dL_law_278 (by decide) (fun q => hkk ((I_inj (a := kk) (b := 0) (by omega) (by omega) (by omega) (by omega)).mp q)) ?_
    refine g_goto (tgt := 3230) X dL_law_293 (by decide) ?_
    exact GG_sub [2, 3, 4, 5, 6] rfl (GG_widen (by omega) (by omega) (hnext m3 hI))
  subst hkk
  refine t_neF 293 X dL_law_278 (by decide) (by decide) ?_
  refine t_al 6 X dL_law_281 rfl rfl ?_
  refine g_iconst (v := I 0) X dL_law_282 rfl ?_
  refine g_lald (q := sv + 62) (n := 1) X ((hF.ty _).trans h62) (by intro q; rcases q with q | q <;> exact absurd q (by decide)) dL_law_283 ?_
  rw [show (I 0).toNatClampNeg = 0 from by decide, hF.al _ (Or.inr (by omega)), hout rfl]
  refine g_iload 0 X dL_law_284 rfl ?_
  refine g_i2l X dL_law_286 ?_
  refine g_lcmp X dL_law_287 ?_
  refine t_eqT (tgt := 293) X dL_law_288 (by decide) (q_cmp0.mpr rfl) ?_
  refine g_goto (tgt := 3230) X dL_law_293 (by decide) ?_
  exact GG_sub [2, 3, 4, 5, 6] rfl (GG_widen (by omega) (by omega) (hnext m3 hI))
theorem dL_law_296 : decode cL_law 296 = .ok (.aload_n 1, 1) := by decide +kernel
theorem dL_law_297 : decode cL_law 297 = .ok (.aload_n 0, 1) := by decide +kernel
theorem dL_law_298 : decode cL_law 298 = .ok (.iload 4, 2) := by decide +kernel
theorem dL_law_300 : decode cL_law 300 = .ok (.iconst 1, 1) := by decide +kernel
theorem dL_law_301 : decode cL_law 301 = .ok (.iadd, 1) := by decide +kernel
theorem dL_law_302 : decode cL_law 302 = .ok (.iaload, 1) := by decide +kernel
theorem dL_law_303 : decode cL_law 303 = .ok (.aload_n 0, 1) := by decide +kernel
theorem dL_law_304 : decode cL_law 304 = .ok (.iload 4, 2) := by decide +kernel
theorem dL_law_306 : decode cL_law 306 = .ok (.iconst 2, 1) := by decide +kernel
theorem dL_law_307 : decode cL_law 307 = .ok (.iadd, 1) := by decide +kernel
theorem dL_law_308 : decode cL_law 308 = .ok (.iaload, 1) := by decide +kernel
theorem dL_law_309 : decode cL_law 309 = .ok (.aload_n 0, 1) := by decide +kernel
theorem dL_law_310 : decode cL_law 310 = .ok (.iload 4, 2) := by decide +kernel
theorem dL_law_312 : decode cL_law 312 = .ok (.iconst 3, 1) := by decide +kernel
theorem dL_law_313 : decode cL_law 313 = .ok (.iadd, 1) := by decide +kernel
theorem dL_law_314 : decode cL_law 314 = .ok (.iaload, 1) := by decide +kernel
theorem dL_law_315 : decode cL_law 315 = .ok (.aload_n 3, 1) := by decide +kernel
theorem dL_law_316 : decode cL_law 316 = .ok (.invokestatic 161, 3) := by decide +kernel
theorem dL_law_319 : decode cL_law 319 = .ok (.istore 5, 2) := by decide +kernel
theorem dL_law_321 : decode cL_law 321 = .ok (.aload_n 2, 1) := by decide +kernel
theorem dL_law_322 : decode cL_law 322 = .ok (.aload_n 0, 1) := by decide +kernel
theorem dL_law_323 : decode cL_law 323 = .ok (.iload 4, 2) := by decide +kernel
theorem dL_law_325 : decode cL_law 325 = .ok (.iconst 1, 1) := by decide +kernel
theorem dL_law_326 : decode cL_law 326 = .ok (.iadd, 1) := by decide +kernel
theorem dL_law_327 : decode cL_law 327 = .ok (.iaload, 1) := by decide +kernel
theorem dL_law_328 : decode cL_law 328 = .ok (.aload_n 0, 1) := by decide +kernel
theorem dL_law_329 : decode cL_law 329 = .ok (.iload 4, 2) := by decide +kernel
theorem dL_law_331 : decode cL_law 331 = .ok (.iconst 2, 1) := by decide +kernel
theorem dL_law_332 : decode cL_law 332 = .ok (.iadd, 1) := by decide +kernel
theorem dL_law_333 : decode cL_law 333 = .ok (.iaload, 1) := by decide +kernel
theorem dL_law_334 : decode cL_law 334 = .ok (.aload_n 0, 1) := by decide +kernel
theorem dL_law_335 : decode cL_law 335 = .ok (.iload 4, 2) := by decide +kernel
theorem dL_law_337 : decode cL_law 337 = .ok (.iconst 3, 1) := by decide +kernel
theorem dL_law_338 : decode cL_law 338 = .ok (.iadd, 1) := by decide +kernel
theorem dL_law_339 : decode cL_law 339 = .ok (.iaload, 1) := by decide +kernel
theorem dL_law_340 : decode cL_law 340 = .ok (.invokevirtual 164, 3) := by decide +kernel
theorem dL_law_343 : decode cL_law 343 = .ok (.istore 6, 2) := by decide +kernel
theorem dL_law_345 : decode cL_law 345 = .ok (.aload_n 2, 1) := by decide +kernel
theorem dL_law_346 : decode cL_law 346 = .ok (.invokevirtual 157, 3) := by decide +kernel
theorem dL_law_349 : decode cL_law 349 = .ok (.iload 5, 2) := by decide +kernel
theorem dL_law_351 : decode cL_law 351 = .ok (.if_icmp .eq 5, 3) := by decide +kernel
theorem dL_law_356 : decode cL_law 356 = .ok (.iload 5, 2) := by decide +kernel
theorem dL_law_358 : decode cL_law 358 = .ok (.ifCond .ne 15, 3) := by decide +kernel
theorem dL_law_361 : decode cL_law 361 = .ok (.aload_n 3, 1) := by decide +kernel
theorem dL_law_362 : decode cL_law 362 = .ok (.iconst 0, 1) := by decide +kernel
theorem dL_law_363 : decode cL_law 363 = .ok (.laload, 1) := by decide +kernel
theorem dL_law_364 : decode cL_law 364 = .ok (.iload 6, 2) := by decide +kernel
theorem dL_law_366 : decode cL_law 366 = .ok (.i2l, 1) := by decide +kernel
theorem dL_law_367 : decode cL_law 367 = .ok (.lcmp, 1) := by decide +kernel
theorem dL_law_368 : decode cL_law 368 = .ok (.ifCond .eq 5, 3) := by decide +kernel
theorem dL_law_373 : decode cL_law 373 = .ok (.goto 2857, 3) := by decide +kernel
set_option maxRecDepth 100000 in
set_option maxHeartbeats 3200000 in
theorem lc_1 {k : QC} {mm : QM} {a b sb L sv i : Nat} {xs : Nat → Int32} {t : Int} (hL : LX k sb L xs) (h : LINV sv t mm) (ht : t + 2 ≤ 600) (hi : i + 6 ≤ L) (ha : a + 20 ≤ 601024) (hb : b + 900 ≤ 7293034) (hnext : ∀ m3, LINV sv (t + 1) m3 → GG k (lenv sb sv i) [] m3 3230 (a + 20) (b + 900)) : GG k (lenv sb sv i) [] mm 296 a b := by
  have X := hL.1
  have hR := hL.2.1
  have hN := hL.2.2.1
  have htr := hL.2.2.2.1
  have hT : TH k (fun _ _ => False) := TH_F
  refine t_al 2 X dL_law_296 rfl rfl ?_
  refine t_arg (p0 := 1) (p4 := 0) hL (by decide) (by decide) hi rfl rfl dL_law_297 dL_law_298 dL_law_300 dL_law_301 dL_law_302 ?_
  refine t_arg (p0 := 1) (p4 := 0) hL (by decide) (by decide) hi rfl rfl dL_law_303 dL_law_304 dL_law_306 dL_law_307 dL_law_308 ?_
  refine t_arg (p0 := 1) (p4 := 0) hL (by decide) (by decide) hi rfl rfl dL_law_309 dL_law_310 dL_law_312 dL_law_313 dL_law_314 ?_
  refine t_al 4 X dL_law_315 rfl rfl ?_
  refine h_callS (rok (AWL sv t (F_X7_setSummer (sv + 20) (xs (i + 1)) (xs (i + 2)) (xs (i + 3))) (fun _ => True))) (st := []) X hT htr (E_L_setSummer sv (xs (i + 1)) (xs (i + 2)) (xs (i + 3))) lkh_setSummer stl_setSummer (qW_at 289 (by decide +kernel) rfl) rfl (by rw [hR]; exact ⟨Nat.le_of_ble_eq_true rfl, Nat.le_of_ble_eq_true rfl⟩) (by exact Nat.le_of_ble_eq_true rfl) (by rw [hR]; exact ⟨by show _ ≤ 601024; omega, by show _ ≤ 7293034; omega⟩) dL_law_316 (by rfl) (W_setSummer h ht (xs (i + 1)) (xs (i + 2)) (xs (i + 3))) (fun _ _ q => rok_x q) (fun v m2 q => ?_)
  obtain ⟨_, hv0, kk, w, G', S', S0, rfl, hk, hC, hs, h45, hR0, h62, hout, hZ, hy⟩ := q
  cases hv0
  refine g_istore (env' := [(5, .int (I kk)), (4, .int (I (i : Int))), (0, .ref sb), (1, .ref sv), (2, .ref (sv + 20)), (3, .ref (sv + 62))]) X dL_law_319 (by rw [hN]; decide) rfl ?_
  refine t_al 4 X dL_law_321 rfl rfl ?_
  refine t_arg (p0 := 2) (p4 := 1) hL (by decide) (by decide) hi rfl rfl dL_law_322 dL_law_323 dL_law_325 dL_law_326 dL_law_327 ?_
  refine t_arg (p0 := 2) (p4 := 1) hL (by decide) (by decide) hi rfl rfl dL_law_328 dL_law_329 dL_law_331 dL_law_332 dL_law_333 ?_
  refine t_arg (p0 := 2) (p4 := 1) hL (by decide) (by decide) hi rfl rfl dL_law_334 dL_law_335 dL_law_337 dL_law_338 dL_law_339 ?_
  obtain ⟨m3, e3, hR3, hF⟩ := hy m2 hR0
  refine g_callV (st := []) (q := sv + 20) (av := [.int (xs (i + 1)), .int (xs (i + 2)), .int (xs (i + 3))]) (x := F_X7_setSummer (sv + 20) (xs (i + 1)) (xs (i + 2)) (xs (i + 3))) (T := fun _ _ => False) X hT htr rfl hR0.ob (M_X7_setSummer (sv + 20) (xs (i + 1)) (xs (i + 2)) (xs (i + 3))) lk_X7_setSummer im_X7_setSummer se_X7_setSummer (qW_at 1458 (by decide +kernel) rfl) rfl (by rw [hR]; exact ⟨Nat.le_of_ble_eq_true rfl, Nat.le_of_ble_eq_true rfl⟩) (by exact Nat.le_of_ble_eq_true rfl) (by rw [hR]; exact ⟨by show _ ≤ 601024; omega, by show _ ≤ 7293034; omega⟩) dL_law_340 ?_
  unfold qwp
  rw [e3]
  show GG k _ (.int w :: []) m3 _ _ _
  refine g_istore (env' := [(6, .int w), (5, .int (I kk)), (4, .int (I (i : Int))), (0, .ref sb), (1, .ref sv), (2, .ref (sv + 20)), (3, .ref (sv + 62))]) X dL_law_343 (by rw [hN]; decide) rfl ?_
  refine t_al 5 X dL_law_345 rfl rfl ?_
  refine g_callV (st := []) (q := sv + 20) (av := []) (x := F_X7_thrown (sv + 20)) (T := fun _ _ => False) X hT htr rfl hR3.ob (M_X7_thrown (sv + 20)) lk_X7_thrown im_X7_thrown se_X7_thrown (qW_at 1440 (by decide +kernel) rfl) rfl (by rw [hR]; exact ⟨Nat.le_of_ble_eq_true rfl, Nat.le_of_ble_eq_true rfl⟩) (by exact Nat.le_of_ble_eq_true rfl) (by rw [hR]; exact ⟨by show _ ≤ 601024; omega, by show _ ≤ 7293034; omega⟩) dL_law_346 ?_
  unfold qwp
  rw [th_val hR3, h45]
  show GG k _ (.int (I kk) :: []) m3 _ _ _
  refine g_iload 1 X dL_law_349 rfl ?_
  refine t_ceqT (tgt := 356) X dL_law_351 (by decide) rfl ?_
  refine g_iload 1 X dL_law_356 rfl ?_
  have hI : LINV sv (t + 1) m3 := ⟨G', S', hC.fm hF, hs, hR3, (hF.ty _).trans h62⟩
  by_cases hkk : kk = 0
  case neg =>
    refine t_neT (tgt := 373) X dL_law_358 (by decide) (fun q => hkk ((I_inj (a := kk) (b := 0) (by omega) (by omega) (by omega) (by omega)).mp q)) ?_
    refine g_goto (tgt := 3230) X dL_law_373 (by decide) ?_
    exact GG_sub [2, 3, 4, 5, 6] rfl (GG_widen (by omega) (by omega) (hnext m3 hI))
  subst hkk
  refine t_neF 373 X dL_law_358 (by decide) (by decide) ?_
  refine t_al 6 X dL_law_361 rfl rfl ?_
  refine g_iconst (v := I 0) X dL_law_362 rfl ?_
  refine g_lald (q := sv + 62) (n := 1) X ((hF.ty _).trans h62) (by intro q; rcases q with q | q <;> exact absurd q (by decide)) dL_law_363 ?_
  rw [show (I 0).toNatClampNeg = 0 from by decide, hF.al _ (Or.inr (by omega)), hout rfl]
  refine g_iload 0 X dL_law_364 rfl ?_
  refine g_i2l X dL_law_366 ?_
  refine g_lcmp X dL_law_367 ?_
  refine t_eqT (tgt := 373) X dL_law_368 (by decide) (q_cmp0.mpr rfl) ?_
  refine g_goto (tgt := 3230) X dL_law_373 (by decide) ?_
  exact GG_sub [2, 3, 4, 5, 6] rfl (GG_widen (by omega) (by omega) (hnext m3 hI))
theorem dL_law_376 : decode cL_law 376 = .ok (.aload_n 1, 1) := by decide +kernel
theorem dL_law_377 : decode cL_law 377 = .ok (.aload_n 0, 1) := by decide +kernel
theorem dL_law_378 : decode cL_law 378 = .ok (.iload 4, 2) := by decide +kernel
theorem dL_law_380 : decode cL_law 380 = .ok (.iconst 1, 1) := by decide +kernel
theorem dL_law_381 : decode cL_law 381 = .ok (.iadd, 1) := by decide +kernel
theorem dL_law_382 : decode cL_law 382 = .ok (.iaload, 1) := by decide +kernel
theorem dL_law_383 : decode cL_law 383 = .ok (.aload_n 0, 1) := by decide +kernel
theorem dL_law_384 : decode cL_law 384 = .ok (.iload 4, 2) := by decide +kernel
theorem dL_law_386 : decode cL_law 386 = .ok (.iconst 2, 1) := by decide +kernel
theorem dL_law_387 : decode cL_law 387 = .ok (.iadd, 1) := by decide +kernel
theorem dL_law_388 : decode cL_law 388 = .ok (.iaload, 1) := by decide +kernel
theorem dL_law_389 : decode cL_law 389 = .ok (.aload_n 3, 1) := by decide +kernel
theorem dL_law_390 : decode cL_law 390 = .ok (.invokestatic 165, 3) := by decide +kernel
theorem dL_law_393 : decode cL_law 393 = .ok (.istore 5, 2) := by decide +kernel
theorem dL_law_395 : decode cL_law 395 = .ok (.aload_n 2, 1) := by decide +kernel
theorem dL_law_396 : decode cL_law 396 = .ok (.aload_n 0, 1) := by decide +kernel
theorem dL_law_397 : decode cL_law 397 = .ok (.iload 4, 2) := by decide +kernel
theorem dL_law_399 : decode cL_law 399 = .ok (.iconst 1, 1) := by decide +kernel
theorem dL_law_400 : decode cL_law 400 = .ok (.iadd, 1) := by decide +kernel
theorem dL_law_401 : decode cL_law 401 = .ok (.iaload, 1) := by decide +kernel
theorem dL_law_402 : decode cL_law 402 = .ok (.aload_n 0, 1) := by decide +kernel
theorem dL_law_403 : decode cL_law 403 = .ok (.iload 4, 2) := by decide +kernel
theorem dL_law_405 : decode cL_law 405 = .ok (.iconst 2, 1) := by decide +kernel
theorem dL_law_406 : decode cL_law 406 = .ok (.iadd, 1) := by decide +kernel
theorem dL_law_407 : decode cL_law 407 = .ok (.iaload, 1) := by decide +kernel
theorem dL_law_408 : decode cL_law 408 = .ok (.invokevirtual 167, 3) := by decide +kernel
theorem dL_law_411 : decode cL_law 411 = .ok (.istore 6, 2) := by decide +kernel
theorem dL_law_413 : decode cL_law 413 = .ok (.aload_n 2, 1) := by decide +kernel
theorem dL_law_414 : decode cL_law 414 = .ok (.invokevirtual 157, 3) := by decide +kernel
theorem dL_law_417 : decode cL_law 417 = .ok (.iload 5, 2) := by decide +kernel
theorem dL_law_419 : decode cL_law 419 = .ok (.if_icmp .eq 5, 3) := by decide +kernel
theorem dL_law_424 : decode cL_law 424 = .ok (.iload 5, 2) := by decide +kernel
theorem dL_law_426 : decode cL_law 426 = .ok (.ifCond .ne 15, 3) := by decide +kernel
theorem dL_law_429 : decode cL_law 429 = .ok (.aload_n 3, 1) := by decide +kernel
theorem dL_law_430 : decode cL_law 430 = .ok (.iconst 0, 1) := by decide +kernel
theorem dL_law_431 : decode cL_law 431 = .ok (.laload, 1) := by decide +kernel
theorem dL_law_432 : decode cL_law 432 = .ok (.iload 6, 2) := by decide +kernel
theorem dL_law_434 : decode cL_law 434 = .ok (.i2l, 1) := by decide +kernel
theorem dL_law_435 : decode cL_law 435 = .ok (.lcmp, 1) := by decide +kernel
theorem dL_law_436 : decode cL_law 436 = .ok (.ifCond .eq 5, 3) := by decide +kernel
theorem dL_law_441 : decode cL_law 441 = .ok (.goto 2789, 3) := by decide +kernel
set_option maxRecDepth 100000 in
set_option maxHeartbeats 3200000 in
theorem lc_2 {k : QC} {mm : QM} {a b sb L sv i : Nat} {xs : Nat → Int32} {t : Int} (hL : LX k sb L xs) (h : LINV sv t mm) (ht : t + 2 ≤ 600) (hi : i + 6 ≤ L) (ha : a + 20 ≤ 601024) (hb : b + 900 ≤ 7293034) (hnext : ∀ m3, LINV sv (t + 1) m3 → GG k (lenv sb sv i) [] m3 3230 (a + 20) (b + 900)) : GG k (lenv sb sv i) [] mm 376 a b := by
  have X := hL.1
  have hR := hL.2.1
  have hN := hL.2.2.1
  have htr := hL.2.2.2.1
  have hT : TH k (fun _ _ => False) := TH_F
  refine t_al 2 X dL_law_376 rfl rfl ?_
  refine t_arg (p0 := 1) (p4 := 0) hL (by decide) (by decide) hi rfl rfl dL_law_377 dL_law_378 dL_law_380 dL_law_381 dL_law_382 ?_
  refine t_arg (p0 := 1) (p4 := 0) hL (by decide) (by decide) hi rfl rfl dL_law_383 dL_law_384 dL_law_386 dL_law_387 dL_law_388 ?_
  refine t_al 4 X dL_law_389 rfl rfl ?_
  refine h_callS (rok (AWL sv t (F_X7_common (sv + 20) (xs (i + 1)) (xs (i + 2))) (fun _ => True))) (st := []) X hT htr (E_L_common sv (xs (i + 1)) (xs (i + 2))) lkh_common stl_common (qW_at 302 (by decide +kernel) rfl) rfl (by rw [hR]; exact ⟨Nat.le_of_ble_eq_true rfl, Nat.le_of_ble_eq_true rfl⟩) (by exact Nat.le_of_ble_eq_true rfl) (by rw [hR]; exact ⟨by show _ ≤ 601024; omega, by show _ ≤ 7293034; omega⟩) dL_law_390 (by rfl) (W_common h ht (xs (i + 1)) (xs (i + 2))) (fun _ _ q => rok_x q) (fun v m2 q => ?_)
  obtain ⟨_, hv0, kk, w, G', S', S0, rfl, hk, hC, hs, h45, hR0, h62, hout, hZ, hy⟩ := q
  cases hv0
  refine g_istore (env' := [(5, .int (I kk)), (4, .int (I (i : Int))), (0, .ref sb), (1, .ref sv), (2, .ref (sv + 20)), (3, .ref (sv + 62))]) X dL_law_393 (by rw [hN]; decide) rfl ?_
  refine t_al 4 X dL_law_395 rfl rfl ?_
  refine t_arg (p0 := 2) (p4 := 1) hL (by decide) (by decide) hi rfl rfl dL_law_396 dL_law_397 dL_law_399 dL_law_400 dL_law_401 ?_
  refine t_arg (p0 := 2) (p4 := 1) hL (by decide) (by decide) hi rfl rfl dL_law_402 dL_law_403 dL_law_405 dL_law_406 dL_law_407 ?_
  obtain ⟨m3, e3, hR3, hF⟩ := hy m2 hR0
  refine g_callV (st := []) (q := sv + 20) (av := [.int (xs (i + 1)), .int (xs (i + 2))]) (x := F_X7_common (sv + 20) (xs (i + 1)) (xs (i + 2))) (T := fun _ _ => False) X hT htr rfl hR0.ob (M_X7_common (sv + 20) (xs (i + 1)) (xs (i + 2))) lk_X7_common im_X7_common se_X7_common (qW_at 1465 (by decide +kernel) rfl) rfl (by rw [hR]; exact ⟨Nat.le_of_ble_eq_true rfl, Nat.le_of_ble_eq_true rfl⟩) (by exact Nat.le_of_ble_eq_true rfl) (by rw [hR]; exact ⟨by show _ ≤ 601024; omega, by show _ ≤ 7293034; omega⟩) dL_law_408 ?_
  unfold qwp
  rw [e3]
  show GG k _ (.int w :: []) m3 _ _ _
  refine g_istore (env' := [(6, .int w), (5, .int (I kk)), (4, .int (I (i : Int))), (0, .ref sb), (1, .ref sv), (2, .ref (sv + 20)), (3, .ref (sv + 62))]) X dL_law_411 (by rw [hN]; decide) rfl ?_
  refine t_al 5 X dL_law_413 rfl rfl ?_
  refine g_callV (st := []) (q := sv + 20) (av := []) (x := F_X7_thrown (sv + 20)) (T := fun _ _ => False) X hT htr rfl hR3.ob (M_X7_thrown (sv + 20)) lk_X7_thrown im_X7_thrown se_X7_thrown (qW_at 1440 (by decide +kernel) rfl) rfl (by rw [hR]; exact ⟨Nat.le_of_ble_eq_true rfl, Nat.le_of_ble_eq_true rfl⟩) (by exact Nat.le_of_ble_eq_true rfl) (by rw [hR]; exact ⟨by show _ ≤ 601024; omega, by show _ ≤ 7293034; omega⟩) dL_law_414 ?_
  unfold qwp
  rw [th_val hR3, h45]
  show GG k _ (.int (I kk) :: []) m3 _ _ _
  refine g_iload 1 X dL_law_417 rfl ?_
  refine t_ceqT (tgt := 424) X dL_law_419 (by decide) rfl ?_
  refine g_iload 1 X dL_law_424 rfl ?_
  have hI : LINV sv (t + 1) m3 := ⟨G', S', hC.fm hF, hs, hR3, (hF.ty _).trans h62⟩
  by_cases hkk : kk = 0
  case neg =>
    refine t_neT (tgt := 441) X dL_law_426 (by decide) (fun q => hkk ((I_inj (a := kk) (b := 0) (by omega) (by omega) (by omega) (by omega)).mp q)) ?_
    refine g_goto (tgt := 3230) X dL_law_441 (by decide) ?_
    exact GG_sub [2, 3, 4, 5, 6] rfl (GG_widen (by omega) (by omega) (hnext m3 hI))
  subst hkk
  refine t_neF 441 X dL_law_426 (by decide) (by decide) ?_
  refine t_al 6 X dL_law_429 rfl rfl ?_
  refine g_iconst (v := I 0) X dL_law_430 rfl ?_
  refine g_lald (q := sv + 62) (n := 1) X ((hF.ty _).trans h62) (by intro q; rcases q with q | q <;> exact absurd q (by decide)) dL_law_431 ?_
  rw [show (I 0).toNatClampNeg = 0 from by decide, hF.al _ (Or.inr (by omega)), hout rfl]
  refine g_iload 0 X dL_law_432 rfl ?_
  refine g_i2l X dL_law_434 ?_
  refine g_lcmp X dL_law_435 ?_
  refine t_eqT (tgt := 441) X dL_law_436 (by decide) (q_cmp0.mpr rfl) ?_
  refine g_goto (tgt := 3230) X dL_law_441 (by decide) ?_
  exact GG_sub [2, 3, 4, 5, 6] rfl (GG_widen (by omega) (by omega) (hnext m3 hI))
theorem dL_law_444 : decode cL_law 444 = .ok (.aload_n 1, 1) := by decide +kernel
theorem dL_law_445 : decode cL_law 445 = .ok (.aload_n 0, 1) := by decide +kernel
theorem dL_law_446 : decode cL_law 446 = .ok (.iload 4, 2) := by decide +kernel
theorem dL_law_448 : decode cL_law 448 = .ok (.iconst 1, 1) := by decide +kernel
theorem dL_law_449 : decode cL_law 449 = .ok (.iadd, 1) := by decide +kernel
theorem dL_law_450 : decode cL_law 450 = .ok (.iaload, 1) := by decide +kernel
theorem dL_law_451 : decode cL_law 451 = .ok (.aload_n 0, 1) := by decide +kernel
theorem dL_law_452 : decode cL_law 452 = .ok (.iload 4, 2) := by decide +kernel
theorem dL_law_454 : decode cL_law 454 = .ok (.iconst 2, 1) := by decide +kernel
theorem dL_law_455 : decode cL_law 455 = .ok (.iadd, 1) := by decide +kernel
theorem dL_law_456 : decode cL_law 456 = .ok (.iaload, 1) := by decide +kernel
theorem dL_law_457 : decode cL_law 457 = .ok (.aload_n 3, 1) := by decide +kernel
theorem dL_law_458 : decode cL_law 458 = .ok (.invokestatic 168, 3) := by decide +kernel
theorem dL_law_461 : decode cL_law 461 = .ok (.istore 5, 2) := by decide +kernel
theorem dL_law_463 : decode cL_law 463 = .ok (.aload_n 2, 1) := by decide +kernel
theorem dL_law_464 : decode cL_law 464 = .ok (.aload_n 0, 1) := by decide +kernel
theorem dL_law_465 : decode cL_law 465 = .ok (.iload 4, 2) := by decide +kernel
theorem dL_law_467 : decode cL_law 467 = .ok (.iconst 1, 1) := by decide +kernel
theorem dL_law_468 : decode cL_law 468 = .ok (.iadd, 1) := by decide +kernel
theorem dL_law_469 : decode cL_law 469 = .ok (.iaload, 1) := by decide +kernel
theorem dL_law_470 : decode cL_law 470 = .ok (.aload_n 0, 1) := by decide +kernel
theorem dL_law_471 : decode cL_law 471 = .ok (.iload 4, 2) := by decide +kernel
theorem dL_law_473 : decode cL_law 473 = .ok (.iconst 2, 1) := by decide +kernel
theorem dL_law_474 : decode cL_law 474 = .ok (.iadd, 1) := by decide +kernel
theorem dL_law_475 : decode cL_law 475 = .ok (.iaload, 1) := by decide +kernel
theorem dL_law_476 : decode cL_law 476 = .ok (.invokevirtual 170, 3) := by decide +kernel
theorem dL_law_479 : decode cL_law 479 = .ok (.istore 6, 2) := by decide +kernel
theorem dL_law_481 : decode cL_law 481 = .ok (.aload_n 2, 1) := by decide +kernel
theorem dL_law_482 : decode cL_law 482 = .ok (.invokevirtual 157, 3) := by decide +kernel
theorem dL_law_485 : decode cL_law 485 = .ok (.iload 5, 2) := by decide +kernel
theorem dL_law_487 : decode cL_law 487 = .ok (.if_icmp .eq 5, 3) := by decide +kernel
theorem dL_law_492 : decode cL_law 492 = .ok (.iload 5, 2) := by decide +kernel
theorem dL_law_494 : decode cL_law 494 = .ok (.ifCond .ne 15, 3) := by decide +kernel
theorem dL_law_497 : decode cL_law 497 = .ok (.aload_n 3, 1) := by decide +kernel
theorem dL_law_498 : decode cL_law 498 = .ok (.iconst 0, 1) := by decide +kernel
theorem dL_law_499 : decode cL_law 499 = .ok (.laload, 1) := by decide +kernel
theorem dL_law_500 : decode cL_law 500 = .ok (.iload 6, 2) := by decide +kernel
theorem dL_law_502 : decode cL_law 502 = .ok (.i2l, 1) := by decide +kernel
theorem dL_law_503 : decode cL_law 503 = .ok (.lcmp, 1) := by decide +kernel
theorem dL_law_504 : decode cL_law 504 = .ok (.ifCond .eq 5, 3) := by decide +kernel
theorem dL_law_509 : decode cL_law 509 = .ok (.goto 2721, 3) := by decide +kernel
set_option maxRecDepth 100000 in
set_option maxHeartbeats 3200000 in
theorem lc_3 {k : QC} {mm : QM} {a b sb L sv i : Nat} {xs : Nat → Int32} {t : Int} (hL : LX k sb L xs) (h : LINV sv t mm) (ht : t + 2 ≤ 600) (hi : i + 6 ≤ L) (ha : a + 20 ≤ 601024) (hb : b + 900 ≤ 7293034) (hnext : ∀ m3, LINV sv (t + 1) m3 → GG k (lenv sb sv i) [] m3 3230 (a + 20) (b + 900)) : GG k (lenv sb sv i) [] mm 444 a b := by
  have X := hL.1
  have hR := hL.2.1
  have hN := hL.2.2.1
  have htr := hL.2.2.2.1
  have hT : TH k (fun _ _ => False) := TH_F
  refine t_al 2 X dL_law_444 rfl rfl ?_
  refine t_arg (p0 := 1) (p4 := 0) hL (by decide) (by decide) hi rfl rfl dL_law_445 dL_law_446 dL_law_448 dL_law_449 dL_law_450 ?_
  refine t_arg (p0 := 1) (p4 := 0) hL (by decide) (by decide) hi rfl rfl dL_law_451 dL_law_452 dL_law_454 dL_law_455 dL_law_456 ?_
  refine t_al 4 X dL_law_457 rfl rfl ?_
  refine h_callS (rok (AWL sv t (F_X7_local (sv + 20) (xs (i + 1)) (xs (i + 2))) (fun _ => True))) (st := []) X hT htr (E_L_local sv (xs (i + 1)) (xs (i + 2))) lkh_local stl_local (qW_at 320 (by decide +kernel) rfl) rfl (by rw [hR]; exact ⟨Nat.le_of_ble_eq_true rfl, Nat.le_of_ble_eq_true rfl⟩) (by exact Nat.le_of_ble_eq_true rfl) (by rw [hR]; exact ⟨by show _ ≤ 601024; omega, by show _ ≤ 7293034; omega⟩) dL_law_458 (by rfl) (W_local h ht (xs (i + 1)) (xs (i + 2))) (fun _ _ q => rok_x q) (fun v m2 q => ?_)
  obtain ⟨_, hv0, kk, w, G', S', S0, rfl, hk, hC, hs, h45, hR0, h62, hout, hZ, hy⟩ := q
  cases hv0
  refine g_istore (env' := [(5, .int (I kk)), (4, .int (I (i : Int))), (0, .ref sb), (1, .ref sv), (2, .ref (sv + 20)), (3, .ref (sv + 62))]) X dL_law_461 (by rw [hN]; decide) rfl ?_
  refine t_al 4 X dL_law_463 rfl rfl ?_
  refine t_arg (p0 := 2) (p4 := 1) hL (by decide) (by decide) hi rfl rfl dL_law_464 dL_law_465 dL_law_467 dL_law_468 dL_law_469 ?_
  refine t_arg (p0 := 2) (p4 := 1) hL (by decide) (by decide) hi rfl rfl dL_law_470 dL_law_471 dL_law_473 dL_law_474 dL_law_475 ?_
  obtain ⟨m3, e3, hR3, hF⟩ := hy m2 hR0
  refine g_callV (st := []) (q := sv + 20) (av := [.int (xs (i + 1)), .int (xs (i + 2))]) (x := F_X7_local (sv + 20) (xs (i + 1)) (xs (i + 2))) (T := fun _ _ => False) X hT htr rfl hR0.ob (M_X7_local (sv + 20) (xs (i + 1)) (xs (i + 2))) lk_X7_local im_X7_local se_X7_local (qW_at 1477 (by decide +kernel) rfl) rfl (by rw [hR]; exact ⟨Nat.le_of_ble_eq_true rfl, Nat.le_of_ble_eq_true rfl⟩) (by exact Nat.le_of_ble_eq_true rfl) (by rw [hR]; exact ⟨by show _ ≤ 601024; omega, by show _ ≤ 7293034; omega⟩) dL_law_476 ?_
  unfold qwp
  rw [e3]
  show GG k _ (.int w :: []) m3 _ _ _
  refine g_istore (env' := [(6, .int w), (5, .int (I kk)), (4, .int (I (i : Int))), (0, .ref sb), (1, .ref sv), (2, .ref (sv + 20)), (3, .ref (sv + 62))]) X dL_law_479 (by rw [hN]; decide) rfl ?_
  refine t_al 5 X dL_law_481 rfl rfl ?_
  refine g_callV (st := []) (q := sv + 20) (av := []) (x := F_X7_thrown (sv + 20)) (T := fun _ _ => False) X hT htr rfl hR3.ob (M_X7_thrown (sv + 20)) lk_X7_thrown im_X7_thrown se_X7_thrown (qW_at 1440 (by decide +kernel) rfl) rfl (by rw [hR]; exact ⟨Nat.le_of_ble_eq_true rfl, Nat.le_of_ble_eq_true rfl⟩) (by exact Nat.le_of_ble_eq_true rfl) (by rw [hR]; exact ⟨by show _ ≤ 601024; omega, by show _ ≤ 7293034; omega⟩) dL_law_482 ?_
  unfold qwp
  rw [th_val hR3, h45]
  show GG k _ (.int (I kk) :: []) m3 _ _ _
  refine g_iload 1 X dL_law_485 rfl ?_
  refine t_ceqT (tgt := 492) X dL_law_487 (by decide) rfl ?_
  refine g_iload 1 X dL_law_492 rfl ?_
  have hI : LINV sv (t + 1) m3 := ⟨G', S', hC.fm hF, hs, hR3, (hF.ty _).trans h62⟩
  by_cases hkk : kk = 0
  case neg =>
    refine t_neT (tgt := 509) X dL_law_494 (by decide) (fun q => hkk ((I_inj (a := kk) (b := 0) (by omega) (by omega) (by omega) (by omega)).mp q)) ?_
    refine g_goto (tgt := 3230) X dL_law_509 (by decide) ?_
    exact GG_sub [2, 3, 4, 5, 6] rfl (GG_widen (by omega) (by omega) (hnext m3 hI))
  subst hkk
  refine t_neF 509 X dL_law_494 (by decide) (by decide) ?_
  refine t_al 6 X dL_law_497 rfl rfl ?_
  refine g_iconst (v := I 0) X dL_law_498 rfl ?_
  refine g_lald (q := sv + 62) (n := 1) X ((hF.ty _).trans h62) (by intro q; rcases q with q | q <;> exact absurd q (by decide)) dL_law_499 ?_
  rw [show (I 0).toNatClampNeg = 0 from by decide, hF.al _ (Or.inr (by omega)), hout rfl]
  refine g_iload 0 X dL_law_500 rfl ?_
  refine g_i2l X dL_law_502 ?_
  refine g_lcmp X dL_law_503 ?_
  refine t_eqT (tgt := 509) X dL_law_504 (by decide) (q_cmp0.mpr rfl) ?_
  refine g_goto (tgt := 3230) X dL_law_509 (by decide) ?_
  exact GG_sub [2, 3, 4, 5, 6] rfl (GG_widen (by omega) (by omega) (hnext m3 hI))
theorem dL_law_512 : decode cL_law 512 = .ok (.aload_n 1, 1) := by decide +kernel
theorem dL_law_513 : decode cL_law 513 = .ok (.aload_n 0, 1) := by decide +kernel
theorem dL_law_514 : decode cL_law 514 = .ok (.iload 4, 2) := by decide +kernel
theorem dL_law_516 : decode cL_law 516 = .ok (.iconst 1, 1) := by decide +kernel
theorem dL_law_517 : decode cL_law 517 = .ok (.iadd, 1) := by decide +kernel
theorem dL_law_518 : decode cL_law 518 = .ok (.iaload, 1) := by decide +kernel
theorem dL_law_519 : decode cL_law 519 = .ok (.aload_n 0, 1) := by decide +kernel
theorem dL_law_520 : decode cL_law 520 = .ok (.iload 4, 2) := by decide +kernel
theorem dL_law_522 : decode cL_law 522 = .ok (.iconst 2, 1) := by decide +kernel
theorem dL_law_523 : decode cL_law 523 = .ok (.iadd, 1) := by decide +kernel
theorem dL_law_524 : decode cL_law 524 = .ok (.iaload, 1) := by decide +kernel
theorem dL_law_525 : decode cL_law 525 = .ok (.aload_n 0, 1) := by decide +kernel
theorem dL_law_526 : decode cL_law 526 = .ok (.iload 4, 2) := by decide +kernel
theorem dL_law_528 : decode cL_law 528 = .ok (.iconst 3, 1) := by decide +kernel
theorem dL_law_529 : decode cL_law 529 = .ok (.iadd, 1) := by decide +kernel
theorem dL_law_530 : decode cL_law 530 = .ok (.iaload, 1) := by decide +kernel
theorem dL_law_531 : decode cL_law 531 = .ok (.aload_n 0, 1) := by decide +kernel
theorem dL_law_532 : decode cL_law 532 = .ok (.iload 4, 2) := by decide +kernel
theorem dL_law_534 : decode cL_law 534 = .ok (.iconst 4, 1) := by decide +kernel
theorem dL_law_535 : decode cL_law 535 = .ok (.iadd, 1) := by decide +kernel
theorem dL_law_536 : decode cL_law 536 = .ok (.iaload, 1) := by decide +kernel
theorem dL_law_537 : decode cL_law 537 = .ok (.aload_n 0, 1) := by decide +kernel
theorem dL_law_538 : decode cL_law 538 = .ok (.iload 4, 2) := by decide +kernel
theorem dL_law_540 : decode cL_law 540 = .ok (.iconst 5, 1) := by decide +kernel
theorem dL_law_541 : decode cL_law 541 = .ok (.iadd, 1) := by decide +kernel
theorem dL_law_542 : decode cL_law 542 = .ok (.iaload, 1) := by decide +kernel
theorem dL_law_543 : decode cL_law 543 = .ok (.aload_n 3, 1) := by decide +kernel
theorem dL_law_544 : decode cL_law 544 = .ok (.invokestatic 171, 3) := by decide +kernel
theorem dL_law_547 : decode cL_law 547 = .ok (.istore 5, 2) := by decide +kernel
theorem dL_law_549 : decode cL_law 549 = .ok (.aload_n 2, 1) := by decide +kernel
theorem dL_law_550 : decode cL_law 550 = .ok (.aload_n 0, 1) := by decide +kernel
theorem dL_law_551 : decode cL_law 551 = .ok (.iload 4, 2) := by decide +kernel
theorem dL_law_553 : decode cL_law 553 = .ok (.iconst 1, 1) := by decide +kernel
theorem dL_law_554 : decode cL_law 554 = .ok (.iadd, 1) := by decide +kernel
theorem dL_law_555 : decode cL_law 555 = .ok (.iaload, 1) := by decide +kernel
theorem dL_law_556 : decode cL_law 556 = .ok (.aload_n 0, 1) := by decide +kernel
theorem dL_law_557 : decode cL_law 557 = .ok (.iload 4, 2) := by decide +kernel
theorem dL_law_559 : decode cL_law 559 = .ok (.iconst 2, 1) := by decide +kernel
theorem dL_law_560 : decode cL_law 560 = .ok (.iadd, 1) := by decide +kernel
theorem dL_law_561 : decode cL_law 561 = .ok (.iaload, 1) := by decide +kernel
theorem dL_law_562 : decode cL_law 562 = .ok (.aload_n 0, 1) := by decide +kernel
theorem dL_law_563 : decode cL_law 563 = .ok (.iload 4, 2) := by decide +kernel
theorem dL_law_565 : decode cL_law 565 = .ok (.iconst 3, 1) := by decide +kernel
theorem dL_law_566 : decode cL_law 566 = .ok (.iadd, 1) := by decide +kernel
theorem dL_law_567 : decode cL_law 567 = .ok (.iaload, 1) := by decide +kernel
theorem dL_law_568 : decode cL_law 568 = .ok (.aload_n 0, 1) := by decide +kernel
theorem dL_law_569 : decode cL_law 569 = .ok (.iload 4, 2) := by decide +kernel
theorem dL_law_571 : decode cL_law 571 = .ok (.iconst 4, 1) := by decide +kernel
theorem dL_law_572 : decode cL_law 572 = .ok (.iadd, 1) := by decide +kernel
theorem dL_law_573 : decode cL_law 573 = .ok (.iaload, 1) := by decide +kernel
theorem dL_law_574 : decode cL_law 574 = .ok (.aload_n 0, 1) := by decide +kernel
theorem dL_law_575 : decode cL_law 575 = .ok (.iload 4, 2) := by decide +kernel
theorem dL_law_577 : decode cL_law 577 = .ok (.iconst 5, 1) := by decide +kernel
theorem dL_law_578 : decode cL_law 578 = .ok (.iadd, 1) := by decide +kernel
theorem dL_law_579 : decode cL_law 579 = .ok (.iaload, 1) := by decide +kernel
theorem dL_law_580 : decode cL_law 580 = .ok (.invokevirtual 174, 3) := by decide +kernel
theorem dL_law_583 : decode cL_law 583 = .ok (.istore 6, 2) := by decide +kernel
theorem dL_law_585 : decode cL_law 585 = .ok (.aload_n 2, 1) := by decide +kernel
theorem dL_law_586 : decode cL_law 586 = .ok (.invokevirtual 157, 3) := by decide +kernel
theorem dL_law_589 : decode cL_law 589 = .ok (.iload 5, 2) := by decide +kernel
theorem dL_law_591 : decode cL_law 591 = .ok (.if_icmp .eq 5, 3) := by decide +kernel
theorem dL_law_596 : decode cL_law 596 = .ok (.iload 5, 2) := by decide +kernel
theorem dL_law_598 : decode cL_law 598 = .ok (.ifCond .ne 15, 3) := by decide +kernel
theorem dL_law_601 : decode cL_law 601 = .ok (.aload_n 3, 1) := by decide +kernel
theorem dL_law_602 : decode cL_law 602 = .ok (.iconst 0, 1) := by decide +kernel
theorem dL_law_603 : decode cL_law 603 = .ok (.laload, 1) := by decide +kernel
theorem dL_law_604 : decode cL_law 604 = .ok (.iload 6, 2) := by decide +kernel
theorem dL_law_606 : decode cL_law 606 = .ok (.i2l, 1) := by decide +kernel
theorem dL_law_607 : decode cL_law 607 = .ok (.lcmp, 1) := by decide +kernel
theorem dL_law_608 : decode cL_law 608 = .ok (.ifCond .eq 5, 3) := by decide +kernel
theorem dL_law_613 : decode cL_law 613 = .ok (.goto 2617, 3) := by decide +kernel
set_option maxRecDepth 100000 in
set_option maxHeartbeats 3200000 in
theorem lc_4 {k : QC} {mm : QM} {a b sb L sv i : Nat} {xs : Nat → Int32} {t : Int} (hL : LX k sb L xs) (h : LINV sv t mm) (ht : t + 2 ≤ 600) (hi : i + 6 ≤ L) (ha : a + 20 ≤ 601024) (hb : b + 900 ≤ 7293034) (hnext : ∀ m3, LINV sv (t + 1) m3 → GG k (lenv sb sv i) [] m3 3230 (a + 20) (b + 900)) : GG k (lenv sb sv i) [] mm 512 a b := by
  have X := hL.1
  have hR := hL.2.1
  have hN := hL.2.2.1
  have htr := hL.2.2.2.1
  have hT : TH k (fun _ _ => False) := TH_F
  refine t_al 2 X dL_law_512 rfl rfl ?_
  refine t_arg (p0 := 1) (p4 := 0) hL (by decide) (by decide) hi rfl rfl dL_law_513 dL_law_514 dL_law_516 dL_law_517 dL_law_518 ?_
  refine t_arg (p0 := 1) (p4 := 0) hL (by decide) (by decide) hi rfl rfl dL_law_519 dL_law_520 dL_law_522 dL_law_523 dL_law_524 ?_
  refine t_arg (p0 := 1) (p4 := 0) hL (by decide) (by decide) hi rfl rfl dL_law_525 dL_law_526 dL_law_528 dL_law_529 dL_law_530 ?_
  refine t_arg (p0 := 1) (p4 := 0) hL (by decide) (by decide) hi rfl rfl dL_law_531 dL_law_532 dL_law_534 dL_law_535 dL_law_536 ?_
  refine t_arg (p0 := 1) (p4 := 0) hL (by decide) (by decide) hi rfl rfl dL_law_537 dL_law_538 dL_law_540 dL_law_541 dL_law_542 ?_
  refine t_al 4 X dL_law_543 rfl rfl ?_
  refine h_callS (rok (AWL sv t (F_X7_make (sv + 20) (xs (i + 1)) (xs (i + 2)) (xs (i + 3)) (xs (i + 4)) (xs (i + 5))) (fun _ => True))) (st := []) X hT htr (E_L_make sv (xs (i + 1)) (xs (i + 2)) (xs (i + 3)) (xs (i + 4)) (xs (i + 5))) lkh_make stl_make (qW_at 331 (by decide +kernel) rfl) rfl (by rw [hR]; exact ⟨Nat.le_of_ble_eq_true rfl, Nat.le_of_ble_eq_true rfl⟩) (by exact Nat.le_of_ble_eq_true rfl) (by rw [hR]; exact ⟨by show _ ≤ 601024; omega, by show _ ≤ 7293034; omega⟩) dL_law_544 (by rfl) (W_make h ht (xs (i + 1)) (xs (i + 2)) (xs (i + 3)) (xs (i + 4)) (xs (i + 5))) (fun _ _ q => rok_x q) (fun v m2 q => ?_)
  obtain ⟨_, hv0, kk, w, G', S', S0, rfl, hk, hC, hs, h45, hR0, h62, hout, hZ, hy⟩ := q
  cases hv0
  refine g_istore (env' := [(5, .int (I kk)), (4, .int (I (i : Int))), (0, .ref sb), (1, .ref sv), (2, .ref (sv + 20)), (3, .ref (sv + 62))]) X dL_law_547 (by rw [hN]; decide) rfl ?_
  refine t_al 4 X dL_law_549 rfl rfl ?_
  refine t_arg (p0 := 2) (p4 := 1) hL (by decide) (by decide) hi rfl rfl dL_law_550 dL_law_551 dL_law_553 dL_law_554 dL_law_555 ?_
  refine t_arg (p0 := 2) (p4 := 1) hL (by decide) (by decide) hi rfl rfl dL_law_556 dL_law_557 dL_law_559 dL_law_560 dL_law_561 ?_
  refine t_arg (p0 := 2) (p4 := 1) hL (by decide) (by decide) hi rfl rfl dL_law_562 dL_law_563 dL_law_565 dL_law_566 dL_law_567 ?_
  refine t_arg (p0 := 2) (p4 := 1) hL (by decide) (by decide) hi rfl rfl dL_law_568 dL_law_569 dL_law_571 dL_law_572 dL_law_573 ?_
  refine t_arg (p0 := 2) (p4 := 1) hL (by decide) (by decide) hi rfl rfl dL_law_574 dL_law_575 dL_law_577 dL_law_578 dL_law_579 ?_
  obtain ⟨m3, e3, hR3, hF⟩ := hy m2 hR0
  refine g_callV (st := []) (q := sv + 20) (av := [.int (xs (i + 1)), .int (xs (i + 2)), .int (xs (i + 3)), .int (xs (i + 4)), .int (xs (i + 5))]) (x := F_X7_make (sv + 20) (xs (i + 1)) (xs (i + 2)) (xs (i + 3)) (xs (i + 4)) (xs (i + 5))) (T := fun _ _ => False) X hT htr rfl hR0.ob (M_X7_make (sv + 20) (xs (i + 1)) (xs (i + 2)) (xs (i + 3)) (xs (i + 4)) (xs (i + 5))) lk_X7_make im_X7_make se_X7_make (qW_at 1485 (by decide +kernel) rfl) rfl (by rw [hR]; exact ⟨Nat.le_of_ble_eq_true rfl, Nat.le_of_ble_eq_true rfl⟩) (by exact Nat.le_of_ble_eq_true rfl) (by rw [hR]; exact ⟨by show _ ≤ 601024; omega, by show _ ≤ 7293034; omega⟩) dL_law_580 ?_
  unfold qwp
  rw [e3]
  show GG k _ (.int w :: []) m3 _ _ _
  refine g_istore (env' := [(6, .int w), (5, .int (I kk)), (4, .int (I (i : Int))), (0, .ref sb), (1, .ref sv), (2, .ref (sv + 20)), (3, .ref (sv + 62))]) X dL_law_583 (by rw [hN]; decide) rfl ?_
  refine t_al 5 X dL_law_585 rfl rfl ?_
  refine g_callV (st := []) (q := sv + 20) (av := []) (x := F_X7_thrown (sv + 20)) (T := fun _ _ => False) X hT htr rfl hR3.ob (M_X7_thrown (sv + 20)) lk_X7_thrown im_X7_thrown se_X7_thrown (qW_at 1440 (by decide +kernel) rfl) rfl (by rw [hR]; exact ⟨Nat.le_of_ble_eq_true rfl, Nat.le_of_ble_eq_true rfl⟩) (by exact Nat.le_of_ble_eq_true rfl) (by rw [hR]; exact ⟨by show _ ≤ 601024; omega, by show _ ≤ 7293034; omega⟩) dL_law_586 ?_
  unfold qwp
  rw [th_val hR3, h45]
  show GG k _ (.int (I kk) :: []) m3 _ _ _
  refine g_iload 1 X dL_law_589 rfl ?_
  refine t_ceqT (tgt := 596) X dL_law_591 (by decide) rfl ?_
  refine g_iload 1 X dL_law_596 rfl ?_
  have hI : LINV sv (t + 1) m3 := ⟨G', S', hC.fm hF, hs, hR3, (hF.ty _).trans h62⟩
  by_cases hkk : kk = 0
  case neg =>
    refine t_neT (tgt := 613) X dL_law_598 (by decide) (fun q => hkk ((I_inj (a := kk) (b := 0) (by omega) (by omega) (by omega) (by omega)).mp q)) ?_
    refine g_goto (tgt := 3230) X dL_law_613 (by decide) ?_
    exact GG_sub [2, 3, 4, 5, 6] rfl (GG_widen (by omega) (by omega) (hnext m3 hI))
  subst hkk
  refine t_neF 613 X dL_law_598 (by decide) (by decide) ?_
  refine t_al 6 X dL_law_601 rfl rfl ?_
  refine g_iconst (v := I 0) X dL_law_602 rfl ?_
  refine g_lald (q := sv + 62) (n := 1) X ((hF.ty _).trans h62) (by intro q; rcases q with q | q <;> exact absurd q (by decide)) dL_law_603 ?_
  rw [show (I 0).toNatClampNeg = 0 from by decide, hF.al _ (Or.inr (by omega)), hout rfl]
  refine g_iload 0 X dL_law_604 rfl ?_
  refine g_i2l X dL_law_606 ?_
  refine g_lcmp X dL_law_607 ?_
  refine t_eqT (tgt := 613) X dL_law_608 (by decide) (q_cmp0.mpr rfl) ?_
  refine g_goto (tgt := 3230) X dL_law_613 (by decide) ?_
  exact GG_sub [2, 3, 4, 5, 6] rfl (GG_widen (by omega) (by omega) (hnext m3 hI))
theorem dL_law_616 : decode cL_law 616 = .ok (.aload_n 1, 1) := by decide +kernel
theorem dL_law_617 : decode cL_law 617 = .ok (.aload_n 0, 1) := by decide +kernel
theorem dL_law_618 : decode cL_law 618 = .ok (.iload 4, 2) := by decide +kernel
theorem dL_law_620 : decode cL_law 620 = .ok (.iconst 1, 1) := by decide +kernel
theorem dL_law_621 : decode cL_law 621 = .ok (.iadd, 1) := by decide +kernel
theorem dL_law_622 : decode cL_law 622 = .ok (.iaload, 1) := by decide +kernel
theorem dL_law_623 : decode cL_law 623 = .ok (.aload_n 0, 1) := by decide +kernel
theorem dL_law_624 : decode cL_law 624 = .ok (.iload 4, 2) := by decide +kernel
theorem dL_law_626 : decode cL_law 626 = .ok (.iconst 2, 1) := by decide +kernel
theorem dL_law_627 : decode cL_law 627 = .ok (.iadd, 1) := by decide +kernel
theorem dL_law_628 : decode cL_law 628 = .ok (.iaload, 1) := by decide +kernel
theorem dL_law_629 : decode cL_law 629 = .ok (.aload_n 0, 1) := by decide +kernel
theorem dL_law_630 : decode cL_law 630 = .ok (.iload 4, 2) := by decide +kernel
theorem dL_law_632 : decode cL_law 632 = .ok (.iconst 3, 1) := by decide +kernel
theorem dL_law_633 : decode cL_law 633 = .ok (.iadd, 1) := by decide +kernel
theorem dL_law_634 : decode cL_law 634 = .ok (.iaload, 1) := by decide +kernel
theorem dL_law_635 : decode cL_law 635 = .ok (.aload_n 0, 1) := by decide +kernel
theorem dL_law_636 : decode cL_law 636 = .ok (.iload 4, 2) := by decide +kernel
theorem dL_law_638 : decode cL_law 638 = .ok (.iconst 4, 1) := by decide +kernel
theorem dL_law_639 : decode cL_law 639 = .ok (.iadd, 1) := by decide +kernel
theorem dL_law_640 : decode cL_law 640 = .ok (.iaload, 1) := by decide +kernel
theorem dL_law_641 : decode cL_law 641 = .ok (.aload_n 3, 1) := by decide +kernel
theorem dL_law_642 : decode cL_law 642 = .ok (.invokestatic 175, 3) := by decide +kernel
theorem dL_law_645 : decode cL_law 645 = .ok (.istore 5, 2) := by decide +kernel
theorem dL_law_647 : decode cL_law 647 = .ok (.aload_n 2, 1) := by decide +kernel
theorem dL_law_648 : decode cL_law 648 = .ok (.aload_n 0, 1) := by decide +kernel
theorem dL_law_649 : decode cL_law 649 = .ok (.iload 4, 2) := by decide +kernel
theorem dL_law_651 : decode cL_law 651 = .ok (.iconst 1, 1) := by decide +kernel
theorem dL_law_652 : decode cL_law 652 = .ok (.iadd, 1) := by decide +kernel
theorem dL_law_653 : decode cL_law 653 = .ok (.iaload, 1) := by decide +kernel
theorem dL_law_654 : decode cL_law 654 = .ok (.aload_n 0, 1) := by decide +kernel
theorem dL_law_655 : decode cL_law 655 = .ok (.iload 4, 2) := by decide +kernel
theorem dL_law_657 : decode cL_law 657 = .ok (.iconst 2, 1) := by decide +kernel
theorem dL_law_658 : decode cL_law 658 = .ok (.iadd, 1) := by decide +kernel
theorem dL_law_659 : decode cL_law 659 = .ok (.iaload, 1) := by decide +kernel
theorem dL_law_660 : decode cL_law 660 = .ok (.aload_n 0, 1) := by decide +kernel
theorem dL_law_661 : decode cL_law 661 = .ok (.iload 4, 2) := by decide +kernel
theorem dL_law_663 : decode cL_law 663 = .ok (.iconst 3, 1) := by decide +kernel
theorem dL_law_664 : decode cL_law 664 = .ok (.iadd, 1) := by decide +kernel
theorem dL_law_665 : decode cL_law 665 = .ok (.iaload, 1) := by decide +kernel
theorem dL_law_666 : decode cL_law 666 = .ok (.aload_n 0, 1) := by decide +kernel
theorem dL_law_667 : decode cL_law 667 = .ok (.iload 4, 2) := by decide +kernel
theorem dL_law_669 : decode cL_law 669 = .ok (.iconst 4, 1) := by decide +kernel
theorem dL_law_670 : decode cL_law 670 = .ok (.iadd, 1) := by decide +kernel
theorem dL_law_671 : decode cL_law 671 = .ok (.iaload, 1) := by decide +kernel
theorem dL_law_672 : decode cL_law 672 = .ok (.invokevirtual 178, 3) := by decide +kernel
theorem dL_law_675 : decode cL_law 675 = .ok (.istore 6, 2) := by decide +kernel
theorem dL_law_677 : decode cL_law 677 = .ok (.aload_n 2, 1) := by decide +kernel
theorem dL_law_678 : decode cL_law 678 = .ok (.invokevirtual 157, 3) := by decide +kernel
theorem dL_law_681 : decode cL_law 681 = .ok (.iload 5, 2) := by decide +kernel
theorem dL_law_683 : decode cL_law 683 = .ok (.if_icmp .eq 5, 3) := by decide +kernel
theorem dL_law_688 : decode cL_law 688 = .ok (.iload 5, 2) := by decide +kernel
theorem dL_law_690 : decode cL_law 690 = .ok (.ifCond .ne 15, 3) := by decide +kernel
theorem dL_law_693 : decode cL_law 693 = .ok (.aload_n 3, 1) := by decide +kernel
theorem dL_law_694 : decode cL_law 694 = .ok (.iconst 0, 1) := by decide +kernel
theorem dL_law_695 : decode cL_law 695 = .ok (.laload, 1) := by decide +kernel
theorem dL_law_696 : decode cL_law 696 = .ok (.iload 6, 2) := by decide +kernel
theorem dL_law_698 : decode cL_law 698 = .ok (.i2l, 1) := by decide +kernel
theorem dL_law_699 : decode cL_law 699 = .ok (.lcmp, 1) := by decide +kernel
theorem dL_law_700 : decode cL_law 700 = .ok (.ifCond .eq 5, 3) := by decide +kernel
theorem dL_law_705 : decode cL_law 705 = .ok (.goto 2525, 3) := by decide +kernel
set_option maxRecDepth 100000 in
set_option maxHeartbeats 3200000 in
theorem lc_5 {k : QC} {mm : QM} {a b sb L sv i : Nat} {xs : Nat → Int32} {t : Int} (hL : LX k sb L xs) (h : LINV sv t mm) (ht : t + 2 ≤ 600) (hi : i + 6 ≤ L) (ha : a + 20 ≤ 601024) (hb : b + 900 ≤ 7293034) (hnext : ∀ m3, LINV sv (t + 1) m3 → GG k (lenv sb sv i) [] m3 3230 (a + 20) (b + 900)) : GG k (lenv sb sv i) [] mm 616 a b := by
  have X := hL.1
  have hR := hL.2.1
  have hN := hL.2.2.1
  have htr := hL.2.2.2.1
  have hT : TH k (fun _ _ => False) := TH_F
  refine t_al 2 X dL_law_616 rfl rfl ?_
  refine t_arg (p0 := 1) (p4 := 0) hL (by decide) (by decide) hi rfl rfl dL_law_617 dL_law_618 dL_law_620 dL_law_621 dL_law_622 ?_
  refine t_arg (p0 := 1) (p4 := 0) hL (by decide) (by decide) hi rfl rfl dL_law_623 dL_law_624 dL_law_626 dL_law_627 dL_law_628 ?_
  refine t_arg (p0 := 1) (p4 := 0) hL (by decide) (by decide) hi rfl rfl dL_law_629 dL_law_630 dL_law_632 dL_law_633 dL_law_634 ?_
  refine t_arg (p0 := 1) (p4 := 0) hL (by decide) (by decide) hi rfl rfl dL_law_635 dL_law_636 dL_law_638 dL_law_639 dL_law_640 ?_
  refine t_al 4 X dL_law_641 rfl rfl ?_
  refine h_callS (rok (AWL sv t (F_X7_time (sv + 20) (xs (i + 1)) (xs (i + 2)) (xs (i + 3)) (xs (i + 4))) (fun _ => True))) (st := []) X hT htr (E_L_time sv (xs (i + 1)) (xs (i + 2)) (xs (i + 3)) (xs (i + 4))) lkh_time stl_time (qW_at 524 (by decide +kernel) rfl) rfl (by rw [hR]; exact ⟨Nat.le_of_ble_eq_true rfl, Nat.le_of_ble_eq_true rfl⟩) (by exact Nat.le_of_ble_eq_true rfl) (by rw [hR]; exact ⟨by show _ ≤ 601024; omega, by show _ ≤ 7293034; omega⟩) dL_law_642 (by rfl) (W_time h ht (xs (i + 1)) (xs (i + 2)) (xs (i + 3)) (xs (i + 4))) (fun _ _ q => rok_x q) (fun v m2 q => ?_)
  obtain ⟨_, hv0, kk, w, G', S', S0, rfl, hk, hC, hs, h45, hR0, h62, hout, hZ, hy⟩ := q
  cases hv0
  refine g_istore (env' := [(5, .int (I kk)), (4, .int (I (i : Int))), (0, .ref sb), (1, .ref sv), (2, .ref (sv + 20)), (3, .ref (sv + 62))]) X dL_law_645 (by rw [hN]; decide) rfl ?_
  refine t_al 4 X dL_law_647 rfl rfl ?_
  refine t_arg (p0 := 2) (p4 := 1) hL (by decide) (by decide) hi rfl rfl dL_law_648 dL_law_649 dL_law_651 dL_law_652 dL_law_653 ?_
  refine t_arg (p0 := 2) (p4 := 1) hL (by decide) (by decide) hi rfl rfl dL_law_654 dL_law_655 dL_law_657 dL_law_658 dL_law_659 ?_
  refine t_arg (p0 := 2) (p4 := 1) hL (by decide) (by decide) hi rfl rfl dL_law_660 dL_law_661 dL_law_663 dL_law_664 dL_law_665 ?_
  refine t_arg (p0 := 2) (p4 := 1) hL (by decide) (by decide) hi rfl rfl dL_law_666 dL_law_667 dL_law_669 dL_law_670 dL_law_671 ?_
  obtain ⟨m3, e3, hR3, hF⟩ := hy m2 hR0
  refine g_callV (st := []) (q := sv + 20) (av := [.int (xs (i + 1)), .int (xs (i + 2)), .int (xs (i + 3)), .int (xs (i + 4))]) (x := F_X7_time (sv + 20) (xs (i + 1)) (xs (i + 2)) (xs (i + 3)) (xs (i + 4))) (T := fun _ _ => False) X hT htr rfl hR0.ob (M_X7_time (sv + 20) (xs (i + 1)) (xs (i + 2)) (xs (i + 3)) (xs (i + 4))) lk_X7_time im_X7_time se_X7_time (qW_at 1521 (by decide +kernel) rfl) rfl (by rw [hR]; exact ⟨Nat.le_of_ble_eq_true rfl, Nat.le_of_ble_eq_true rfl⟩) (by exact Nat.le_of_ble_eq_true rfl) (by rw [hR]; exact ⟨by show _ ≤ 601024; omega, by show _ ≤ 7293034; omega⟩) dL_law_672 ?_
  unfold qwp
  rw [e3]
  show GG k _ (.int w :: []) m3 _ _ _
  refine g_istore (env' := [(6, .int w), (5, .int (I kk)), (4, .int (I (i : Int))), (0, .ref sb), (1, .ref sv), (2, .ref (sv + 20)), (3, .ref (sv + 62))]) X dL_law_675 (by rw [hN]; decide) rfl ?_
  refine t_al 5 X dL_law_677 rfl rfl ?_
  refine g_callV (st := []) (q := sv + 20) (av := []) (x := F_X7_thrown (sv + 20)) (T := fun _ _ => False) X hT htr rfl hR3.ob (M_X7_thrown (sv + 20)) lk_X7_thrown im_X7_thrown se_X7_thrown (qW_at 1440 (by decide +kernel) rfl) rfl (by rw [hR]; exact ⟨Nat.le_of_ble_eq_true rfl, Nat.le_of_ble_eq_true rfl⟩) (by exact Nat.le_of_ble_eq_true rfl) (by rw [hR]; exact ⟨by show _ ≤ 601024; omega, by show _ ≤ 7293034; omega⟩) dL_law_678 ?_
  unfold qwp
  rw [th_val hR3, h45]
  show GG k _ (.int (I kk) :: []) m3 _ _ _
  refine g_iload 1 X dL_law_681 rfl ?_
  refine t_ceqT (tgt := 688) X dL_law_683 (by decide) rfl ?_
  refine g_iload 1 X dL_law_688 rfl ?_
  have hI : LINV sv (t + 1) m3 := ⟨G', S', hC.fm hF, hs, hR3, (hF.ty _).trans h62⟩
  by_cases hkk : kk = 0
  case neg =>
    refine t_neT (tgt := 705) X dL_law_690 (by decide) (fun q => hkk ((I_inj (a := kk) (b := 0) (by omega) (by omega) (by omega) (by omega)).mp q)) ?_
    refine g_goto (tgt := 3230) X dL_law_705 (by decide) ?_
    exact GG_sub [2, 3, 4, 5, 6] rfl (GG_widen (by omega) (by omega) (hnext m3 hI))
  subst hkk
  refine t_neF 705 X dL_law_690 (by decide) (by decide) ?_
  refine t_al 6 X dL_law_693 rfl rfl ?_
  refine g_iconst (v := I 0) X dL_law_694 rfl ?_
  refine g_lald (q := sv + 62) (n := 1) X ((hF.ty _).trans h62) (by intro q; rcases q with q | q <;> exact absurd q (by decide)) dL_law_695 ?_
  rw [show (I 0).toNatClampNeg = 0 from by decide, hF.al _ (Or.inr (by omega)), hout rfl]
  refine g_iload 0 X dL_law_696 rfl ?_
  refine g_i2l X dL_law_698 ?_
  refine g_lcmp X dL_law_699 ?_
  refine t_eqT (tgt := 705) X dL_law_700 (by decide) (q_cmp0.mpr rfl) ?_
  refine g_goto (tgt := 3230) X dL_law_705 (by decide) ?_
  exact GG_sub [2, 3, 4, 5, 6] rfl (GG_widen (by omega) (by omega) (hnext m3 hI))
