/-! the law's cases 30 to 35 -/
theorem dL_law_2296 : decode cL_law 2296 = .ok (.aload_n 1, 1) := by decide +kernel
theorem dL_law_2297 : decode cL_law 2297 = .ok (.aload_n 0, 1) := by decide +kernel
theorem dL_law_2298 : decode cL_law 2298 = .ok (.iload 4, 2) := by decide +kernel
theorem dL_law_2300 : decode cL_law 2300 = .ok (.iconst 1, 1) := by decide +kernel
theorem dL_law_2301 : decode cL_law 2301 = .ok (.iadd, 1) := by decide +kernel
theorem dL_law_2302 : decode cL_law 2302 = .ok (.iaload, 1) := by decide +kernel
theorem dL_law_2303 : decode cL_law 2303 = .ok (.aload_n 0, 1) := by decide +kernel
theorem dL_law_2304 : decode cL_law 2304 = .ok (.iload 4, 2) := by decide +kernel
theorem dL_law_2306 : decode cL_law 2306 = .ok (.iconst 2, 1) := by decide +kernel
theorem dL_law_2307 : decode cL_law 2307 = .ok (.iadd, 1) := by decide +kernel
theorem dL_law_2308 : decode cL_law 2308 = .ok (.iaload, 1) := by decide +kernel
theorem dL_law_2309 : decode cL_law 2309 = .ok (.aload_n 0, 1) := by decide +kernel
theorem dL_law_2310 : decode cL_law 2310 = .ok (.iload 4, 2) := by decide +kernel
theorem dL_law_2312 : decode cL_law 2312 = .ok (.iconst 3, 1) := by decide +kernel
theorem dL_law_2313 : decode cL_law 2313 = .ok (.iadd, 1) := by decide +kernel
theorem dL_law_2314 : decode cL_law 2314 = .ok (.iaload, 1) := by decide +kernel
theorem dL_law_2315 : decode cL_law 2315 = .ok (.aload_n 3, 1) := by decide +kernel
theorem dL_law_2316 : decode cL_law 2316 = .ok (.invokestatic 255, 3) := by decide +kernel
theorem dL_law_2319 : decode cL_law 2319 = .ok (.istore 5, 2) := by decide +kernel
theorem dL_law_2321 : decode cL_law 2321 = .ok (.aload_n 2, 1) := by decide +kernel
theorem dL_law_2322 : decode cL_law 2322 = .ok (.aload_n 0, 1) := by decide +kernel
theorem dL_law_2323 : decode cL_law 2323 = .ok (.iload 4, 2) := by decide +kernel
theorem dL_law_2325 : decode cL_law 2325 = .ok (.iconst 1, 1) := by decide +kernel
theorem dL_law_2326 : decode cL_law 2326 = .ok (.iadd, 1) := by decide +kernel
theorem dL_law_2327 : decode cL_law 2327 = .ok (.iaload, 1) := by decide +kernel
theorem dL_law_2328 : decode cL_law 2328 = .ok (.aload_n 0, 1) := by decide +kernel
theorem dL_law_2329 : decode cL_law 2329 = .ok (.iload 4, 2) := by decide +kernel
theorem dL_law_2331 : decode cL_law 2331 = .ok (.iconst 2, 1) := by decide +kernel
theorem dL_law_2332 : decode cL_law 2332 = .ok (.iadd, 1) := by decide +kernel
theorem dL_law_2333 : decode cL_law 2333 = .ok (.iaload, 1) := by decide +kernel
theorem dL_law_2334 : decode cL_law 2334 = .ok (.aload_n 0, 1) := by decide +kernel
theorem dL_law_2335 : decode cL_law 2335 = .ok (.iload 4, 2) := by decide +kernel
theorem dL_law_2337 : decode cL_law 2337 = .ok (.iconst 3, 1) := by decide +kernel
theorem dL_law_2338 : decode cL_law 2338 = .ok (.iadd, 1) := by decide +kernel
theorem dL_law_2339 : decode cL_law 2339 = .ok (.iaload, 1) := by decide +kernel
theorem dL_law_2340 : decode cL_law 2340 = .ok (.invokevirtual 257, 3) := by decide +kernel
theorem dL_law_2343 : decode cL_law 2343 = .ok (.istore 6, 2) := by decide +kernel
theorem dL_law_2345 : decode cL_law 2345 = .ok (.aload_n 2, 1) := by decide +kernel
theorem dL_law_2346 : decode cL_law 2346 = .ok (.invokevirtual 157, 3) := by decide +kernel
theorem dL_law_2349 : decode cL_law 2349 = .ok (.iload 5, 2) := by decide +kernel
theorem dL_law_2351 : decode cL_law 2351 = .ok (.if_icmp .eq 5, 3) := by decide +kernel
theorem dL_law_2356 : decode cL_law 2356 = .ok (.iload 5, 2) := by decide +kernel
theorem dL_law_2358 : decode cL_law 2358 = .ok (.ifCond .ne 15, 3) := by decide +kernel
theorem dL_law_2361 : decode cL_law 2361 = .ok (.aload_n 3, 1) := by decide +kernel
theorem dL_law_2362 : decode cL_law 2362 = .ok (.iconst 0, 1) := by decide +kernel
theorem dL_law_2363 : decode cL_law 2363 = .ok (.laload, 1) := by decide +kernel
theorem dL_law_2364 : decode cL_law 2364 = .ok (.iload 6, 2) := by decide +kernel
theorem dL_law_2366 : decode cL_law 2366 = .ok (.i2l, 1) := by decide +kernel
theorem dL_law_2367 : decode cL_law 2367 = .ok (.lcmp, 1) := by decide +kernel
theorem dL_law_2368 : decode cL_law 2368 = .ok (.ifCond .eq 5, 3) := by decide +kernel
theorem dL_law_2373 : decode cL_law 2373 = .ok (.goto 857, 3) := by decide +kernel
set_option maxRecDepth 100000 in
set_option maxHeartbeats 3200000 in
theorem lc_30 {k : QC} {mm : QM} {a b sb L sv i : Nat} {xs : Nat → Int32} {t : Int} (hL : LX k sb L xs) (h : LINV sv t mm) (ht : t + 2 ≤ 600) (hi : i + 6 ≤ L) (ha : a + 20 ≤ 601024) (hb : b + 900 ≤ 7293034) (hnext : ∀ m3, LINV sv (t + 1) m3 → GG k (lenv sb sv i) [] m3 3230 (a + 20) (b + 900)) : GG k (lenv sb sv i) [] mm 2296 a b := by
  have X := hL.1
  have hR := hL.2.1
  have hN := hL.2.2.1
  have htr := hL.2.2.2.1
  have hT : TH k (fun _ _ => False) := TH_F
  refine t_al 2 X dL_law_2296 rfl rfl ?_
  refine t_arg (p0 := 1) (p4 := 0) hL (by decide) (by decide) hi rfl rfl dL_law_2297 dL_law_2298 dL_law_2300 dL_law_2301 dL_law_2302 ?_
  refine t_arg (p0 := 1) (p4 := 0) hL (by decide) (by decide) hi rfl rfl dL_law_2303 dL_law_2304 dL_law_2306 dL_law_2307 dL_law_2308 ?_
  refine t_arg (p0 := 1) (p4 := 0) hL (by decide) (by decide) hi rfl rfl dL_law_2309 dL_law_2310 dL_law_2312 dL_law_2313 dL_law_2314 ?_
  refine t_al 4 X dL_law_2315 rfl rfl ?_
  refine h_callS (rok (AWL sv t (F_X7_ownAnswer (sv + 20) (xs (i + 1)) (xs (i + 2)) (xs (i + 3))) (fun _ => True))) (st := []) X hT htr (E_L_ownAnswer sv (xs (i + 1)) (xs (i + 2)) (xs (i + 3))) lkh_ownAnswer stl_ownAnswer (qW_at 1119 (by decide +kernel) rfl) rfl (by rw [hR]; exact ⟨Nat.le_of_ble_eq_true rfl, Nat.le_of_ble_eq_true rfl⟩) (by exact Nat.le_of_ble_eq_true rfl) (by rw [hR]; exact ⟨by show _ ≤ 601024; omega, by show _ ≤ 7293034; omega⟩) dL_law_2316 (by rfl) (W_ownAnswer h ht (xs (i + 1)) (xs (i + 2)) (xs (i + 3))) (fun _ _ q => rok_x q) (fun v m2 q => ?_)
  obtain ⟨_, hv0, kk, w, G', S', S0, rfl, hk, hC, hs, h45, hR0, h62, hout, hZ, hy⟩ := q
  cases hv0
  refine g_istore (env' := [(5, .int (I kk)), (4, .int (I (i : Int))), (0, .ref sb), (1, .ref sv), (2, .ref (sv + 20)), (3, .ref (sv + 62))]) X dL_law_2319 (by rw [hN]; decide) rfl ?_
  refine t_al 4 X dL_law_2321 rfl rfl ?_
  refine t_arg (p0 := 2) (p4 := 1) hL (by decide) (by decide) hi rfl rfl dL_law_2322 dL_law_2323 dL_law_2325 dL_law_2326 dL_law_2327 ?_
  refine t_arg (p0 := 2) (p4 := 1) hL (by decide) (by decide) hi rfl rfl dL_law_2328 dL_law_2329 dL_law_2331 dL_law_2332 dL_law_2333 ?_
  refine t_arg (p0 := 2) (p4 := 1) hL (by decide) (by decide) hi rfl rfl dL_law_2334 dL_law_2335 dL_law_2337 dL_law_2338 dL_law_2339 ?_
  obtain ⟨m3, e3, hR3, hF⟩ := hy m2 hR0
  refine g_callV (st := []) (q := sv + 20) (av := [.int (xs (i + 1)), .int (xs (i + 2)), .int (xs (i + 3))]) (x := F_X7_ownAnswer (sv + 20) (xs (i + 1)) (xs (i + 2)) (xs (i + 3))) (T := fun _ _ => False) X hT htr rfl hR0.ob (M_X7_ownAnswer (sv + 20) (xs (i + 1)) (xs (i + 2)) (xs (i + 3))) lk_X7_ownAnswer im_X7_ownAnswer se_X7_ownAnswer (qW_at 1765 (by decide +kernel) rfl) rfl (by rw [hR]; exact ⟨Nat.le_of_ble_eq_true rfl, Nat.le_of_ble_eq_true rfl⟩) (by exact Nat.le_of_ble_eq_true rfl) (by rw [hR]; exact ⟨by show _ ≤ 601024; omega, by show _ ≤ 7293034; omega⟩) dL_law_2340 ?_
  unfold qwp
  rw [e3]
  show GG k _ (.int w :: []) m3 _ _ _
  refine g_istore (env' := [(6, .int w), (5, .int (I kk)), (4, .int (I (i : Int))), (0, .ref sb), (1, .ref sv), (2, .ref (sv + 20)), (3, .ref (sv + 62))]) X dL_law_2343 (by rw [hN]; decide) rfl ?_
  refine t_al 5 X dL_law_2345 rfl rfl ?_
  refine g_callV (st := []) (q := sv + 20) (av := []) (x := F_X7_thrown (sv + 20)) (T := fun _ _ => False) X hT htr rfl hR3.ob (M_X7_thrown (sv + 20)) lk_X7_thrown im_X7_thrown se_X7_thrown (qW_at 1440 (by decide +kernel) rfl) rfl (by rw [hR]; exact ⟨Nat.le_of_ble_eq_true rfl, Nat.le_of_ble_eq_true rfl⟩) (by exact Nat.le_of_ble_eq_true rfl) (by rw [hR]; exact ⟨by show _ ≤ 601024; omega, by show _ ≤ 7293034; omega⟩) dL_law_2346 ?_
  unfold qwp
  rw [th_val hR3, h45]
  show GG k _ (.int (I kk) :: []) m3 _ _ _
  refine g_iload 1 X dL_law_2349 rfl ?_
  refine t_ceqT (tgt := 2356) X dL_law_2351 (by decide) rfl ?_
  refine g_iload 1 X dL_law_2356 rfl ?_
  have hI : LINV sv (t + 1) m3 := ⟨G', S', hC.fm hF, hs, hR3, (hF.ty _).trans h62⟩
  by_cases hkk : kk = 0
  case neg =>
    refine t_neT (tgt := 2373) X dL_law_2358 (by decide) (fun q => hkk ((I_inj (a := kk) (b := 0) (by omega) (by omega) (by omega) (by omega)).mp q)) ?_
    refine g_goto (tgt := 3230) X dL_law_2373 (by decide) ?_
    exact GG_sub [2, 3, 4, 5, 6] rfl (GG_widen (by omega) (by omega) (hnext m3 hI))
  subst hkk
  refine t_neF 2373 X dL_law_2358 (by decide) (by decide) ?_
  refine t_al 6 X dL_law_2361 rfl rfl ?_
  refine g_iconst (v := I 0) X dL_law_2362 rfl ?_
  refine g_lald (q := sv + 62) (n := 1) X ((hF.ty _).trans h62) (by intro q; rcases q with q | q <;> exact absurd q (by decide)) dL_law_2363 ?_
  rw [show (I 0).toNatClampNeg = 0 from by decide, hF.al _ (Or.inr (by omega)), hout rfl]
  refine g_iload 0 X dL_law_2364 rfl ?_
  refine g_i2l X dL_law_2366 ?_
  refine g_lcmp X dL_law_2367 ?_
  refine t_eqT (tgt := 2373) X dL_law_2368 (by decide) (q_cmp0.mpr rfl) ?_
  refine g_goto (tgt := 3230) X dL_law_2373 (by decide) ?_
  exact GG_sub [2, 3, 4, 5, 6] rfl (GG_widen (by omega) (by omega) (hnext m3 hI))
theorem dL_law_2376 : decode cL_law 2376 = .ok (.aload_n 1, 1) := by decide +kernel
theorem dL_law_2377 : decode cL_law 2377 = .ok (.aload_n 0, 1) := by decide +kernel
theorem dL_law_2378 : decode cL_law 2378 = .ok (.iload 4, 2) := by decide +kernel
theorem dL_law_2380 : decode cL_law 2380 = .ok (.iconst 1, 1) := by decide +kernel
theorem dL_law_2381 : decode cL_law 2381 = .ok (.iadd, 1) := by decide +kernel
theorem dL_law_2382 : decode cL_law 2382 = .ok (.iaload, 1) := by decide +kernel
theorem dL_law_2383 : decode cL_law 2383 = .ok (.aload_n 0, 1) := by decide +kernel
theorem dL_law_2384 : decode cL_law 2384 = .ok (.iload 4, 2) := by decide +kernel
theorem dL_law_2386 : decode cL_law 2386 = .ok (.iconst 2, 1) := by decide +kernel
theorem dL_law_2387 : decode cL_law 2387 = .ok (.iadd, 1) := by decide +kernel
theorem dL_law_2388 : decode cL_law 2388 = .ok (.iaload, 1) := by decide +kernel
theorem dL_law_2389 : decode cL_law 2389 = .ok (.aload_n 3, 1) := by decide +kernel
theorem dL_law_2390 : decode cL_law 2390 = .ok (.invokestatic 258, 3) := by decide +kernel
theorem dL_law_2393 : decode cL_law 2393 = .ok (.istore 5, 2) := by decide +kernel
theorem dL_law_2395 : decode cL_law 2395 = .ok (.aload_n 2, 1) := by decide +kernel
theorem dL_law_2396 : decode cL_law 2396 = .ok (.aload_n 0, 1) := by decide +kernel
theorem dL_law_2397 : decode cL_law 2397 = .ok (.iload 4, 2) := by decide +kernel
theorem dL_law_2399 : decode cL_law 2399 = .ok (.iconst 1, 1) := by decide +kernel
theorem dL_law_2400 : decode cL_law 2400 = .ok (.iadd, 1) := by decide +kernel
theorem dL_law_2401 : decode cL_law 2401 = .ok (.iaload, 1) := by decide +kernel
theorem dL_law_2402 : decode cL_law 2402 = .ok (.aload_n 0, 1) := by decide +kernel
theorem dL_law_2403 : decode cL_law 2403 = .ok (.iload 4, 2) := by decide +kernel
theorem dL_law_2405 : decode cL_law 2405 = .ok (.iconst 2, 1) := by decide +kernel
theorem dL_law_2406 : decode cL_law 2406 = .ok (.iadd, 1) := by decide +kernel
theorem dL_law_2407 : decode cL_law 2407 = .ok (.iaload, 1) := by decide +kernel
theorem dL_law_2408 : decode cL_law 2408 = .ok (.invokevirtual 260, 3) := by decide +kernel
theorem dL_law_2411 : decode cL_law 2411 = .ok (.istore 6, 2) := by decide +kernel
theorem dL_law_2413 : decode cL_law 2413 = .ok (.aload_n 2, 1) := by decide +kernel
theorem dL_law_2414 : decode cL_law 2414 = .ok (.invokevirtual 157, 3) := by decide +kernel
theorem dL_law_2417 : decode cL_law 2417 = .ok (.iload 5, 2) := by decide +kernel
theorem dL_law_2419 : decode cL_law 2419 = .ok (.if_icmp .eq 5, 3) := by decide +kernel
theorem dL_law_2424 : decode cL_law 2424 = .ok (.iload 5, 2) := by decide +kernel
theorem dL_law_2426 : decode cL_law 2426 = .ok (.ifCond .ne 22, 3) := by decide +kernel
theorem dL_law_2429 : decode cL_law 2429 = .ok (.aload_n 3, 1) := by decide +kernel
theorem dL_law_2430 : decode cL_law 2430 = .ok (.iconst 0, 1) := by decide +kernel
theorem dL_law_2431 : decode cL_law 2431 = .ok (.laload, 1) := by decide +kernel
theorem dL_law_2432 : decode cL_law 2432 = .ok (.iload 6, 2) := by decide +kernel
theorem dL_law_2434 : decode cL_law 2434 = .ok (.ifCond .eq 7, 3) := by decide +kernel
theorem dL_law_2437 : decode cL_law 2437 = .ok (.lconst 1, 1) := by decide +kernel
theorem dL_law_2438 : decode cL_law 2438 = .ok (.goto 4, 3) := by decide +kernel
theorem dL_law_2441 : decode cL_law 2441 = .ok (.lconst 0, 1) := by decide +kernel
theorem dL_law_2442 : decode cL_law 2442 = .ok (.lcmp, 1) := by decide +kernel
theorem dL_law_2443 : decode cL_law 2443 = .ok (.ifCond .eq 5, 3) := by decide +kernel
theorem dL_law_2448 : decode cL_law 2448 = .ok (.goto 782, 3) := by decide +kernel
set_option maxRecDepth 100000 in
set_option maxHeartbeats 3200000 in
theorem lc_31 {k : QC} {mm : QM} {a b sb L sv i : Nat} {xs : Nat → Int32} {t : Int} (hL : LX k sb L xs) (h : LINV sv t mm) (ht : t + 2 ≤ 600) (hi : i + 6 ≤ L) (ha : a + 20 ≤ 601024) (hb : b + 900 ≤ 7293034) (hnext : ∀ m3, LINV sv (t + 1) m3 → GG k (lenv sb sv i) [] m3 3230 (a + 20) (b + 900)) : GG k (lenv sb sv i) [] mm 2376 a b := by
  have X := hL.1
  have hR := hL.2.1
  have hN := hL.2.2.1
  have htr := hL.2.2.2.1
  have hT : TH k (fun _ _ => False) := TH_F
  refine t_al 2 X dL_law_2376 rfl rfl ?_
  refine t_arg (p0 := 1) (p4 := 0) hL (by decide) (by decide) hi rfl rfl dL_law_2377 dL_law_2378 dL_law_2380 dL_law_2381 dL_law_2382 ?_
  refine t_arg (p0 := 1) (p4 := 0) hL (by decide) (by decide) hi rfl rfl dL_law_2383 dL_law_2384 dL_law_2386 dL_law_2387 dL_law_2388 ?_
  refine t_al 4 X dL_law_2389 rfl rfl ?_
  refine h_callS (rok (AWL sv t (F_X7_isAsked (sv + 20) (xs (i + 1)) (xs (i + 2))) (fun v => v = 0 ∨ v = 1))) (st := []) X hT htr (E_L_isAsked sv (xs (i + 1)) (xs (i + 2))) lkh_isAsked stl_isAsked (qW_at 1140 (by decide +kernel) rfl) rfl (by rw [hR]; exact ⟨Nat.le_of_ble_eq_true rfl, Nat.le_of_ble_eq_true rfl⟩) (by exact Nat.le_of_ble_eq_true rfl) (by rw [hR]; exact ⟨by show _ ≤ 601024; omega, by show _ ≤ 7293034; omega⟩) dL_law_2390 (by rfl) (W_isAsked h ht (xs (i + 1)) (xs (i + 2))) (fun _ _ q => rok_x q) (fun v m2 q => ?_)
  obtain ⟨_, hv0, kk, w, G', S', S0, rfl, hk, hC, hs, h45, hR0, h62, hout, hZ, hy⟩ := q
  cases hv0
  refine g_istore (env' := [(5, .int (I kk)), (4, .int (I (i : Int))), (0, .ref sb), (1, .ref sv), (2, .ref (sv + 20)), (3, .ref (sv + 62))]) X dL_law_2393 (by rw [hN]; decide) rfl ?_
  refine t_al 4 X dL_law_2395 rfl rfl ?_
  refine t_arg (p0 := 2) (p4 := 1) hL (by decide) (by decide) hi rfl rfl dL_law_2396 dL_law_2397 dL_law_2399 dL_law_2400 dL_law_2401 ?_
  refine t_arg (p0 := 2) (p4 := 1) hL (by decide) (by decide) hi rfl rfl dL_law_2402 dL_law_2403 dL_law_2405 dL_law_2406 dL_law_2407 ?_
  obtain ⟨m3, e3, hR3, hF⟩ := hy m2 hR0
  refine g_callV (st := []) (q := sv + 20) (av := [.int (xs (i + 1)), .int (xs (i + 2))]) (x := F_X7_isAsked (sv + 20) (xs (i + 1)) (xs (i + 2))) (T := fun _ _ => False) X hT htr rfl hR0.ob (M_X7_isAsked (sv + 20) (xs (i + 1)) (xs (i + 2))) lk_X7_isAsked im_X7_isAsked se_X7_isAsked (qW_at 1777 (by decide +kernel) rfl) rfl (by rw [hR]; exact ⟨Nat.le_of_ble_eq_true rfl, Nat.le_of_ble_eq_true rfl⟩) (by exact Nat.le_of_ble_eq_true rfl) (by rw [hR]; exact ⟨by show _ ≤ 601024; omega, by show _ ≤ 7293034; omega⟩) dL_law_2408 ?_
  unfold qwp
  rw [e3]
  show GG k _ (.int w :: []) m3 _ _ _
  refine g_istore (env' := [(6, .int w), (5, .int (I kk)), (4, .int (I (i : Int))), (0, .ref sb), (1, .ref sv), (2, .ref (sv + 20)), (3, .ref (sv + 62))]) X dL_law_2411 (by rw [hN]; decide) rfl ?_
  refine t_al 5 X dL_law_2413 rfl rfl ?_
  refine g_callV (st := []) (q := sv + 20) (av := []) (x := F_X7_thrown (sv + 20)) (T := fun _ _ => False) X hT htr rfl hR3.ob (M_X7_thrown (sv + 20)) lk_X7_thrown im_X7_thrown se_X7_thrown (qW_at 1440 (by decide +kernel) rfl) rfl (by rw [hR]; exact ⟨Nat.le_of_ble_eq_true rfl, Nat.le_of_ble_eq_true rfl⟩) (by exact Nat.le_of_ble_eq_true rfl) (by rw [hR]; exact ⟨by show _ ≤ 601024; omega, by show _ ≤ 7293034; omega⟩) dL_law_2414 ?_
  unfold qwp
  rw [th_val hR3, h45]
  show GG k _ (.int (I kk) :: []) m3 _ _ _
  refine g_iload 1 X dL_law_2417 rfl ?_
  refine t_ceqT (tgt := 2424) X dL_law_2419 (by decide) rfl ?_
  refine g_iload 1 X dL_law_2424 rfl ?_
  have hI : LINV sv (t + 1) m3 := ⟨G', S', hC.fm hF, hs, hR3, (hF.ty _).trans h62⟩
  by_cases hkk : kk = 0
  case neg =>
    refine t_neT (tgt := 2448) X dL_law_2426 (by decide) (fun q => hkk ((I_inj (a := kk) (b := 0) (by omega) (by omega) (by omega) (by omega)).mp q)) ?_
    refine g_goto (tgt := 3230) X dL_law_2448 (by decide) ?_
    exact GG_sub [2, 3, 4, 5, 6] rfl (GG_widen (by omega) (by omega) (hnext m3 hI))
  subst hkk
  refine t_neF 2448 X dL_law_2426 (by decide) (by decide) ?_
  refine t_al 6 X dL_law_2429 rfl rfl ?_
  refine g_iconst (v := I 0) X dL_law_2430 rfl ?_
  refine g_lald (q := sv + 62) (n := 1) X ((hF.ty _).trans h62) (by intro q; rcases q with q | q <;> exact absurd q (by decide)) dL_law_2431 ?_
  rw [show (I 0).toNatClampNeg = 0 from by decide, hF.al _ (Or.inr (by omega)), hout rfl]
  refine g_iload 0 X dL_law_2432 rfl ?_
  rcases hZ with rfl | rfl
  · refine t_eqT (tgt := 2441) X dL_law_2434 (by decide) rfl ?_
    refine g_lconst (v := (0 : Int32).toInt64) X dL_law_2441 (by decide) ?_
    refine g_lcmp X dL_law_2442 ?_
    refine t_eqT (tgt := 2448) X dL_law_2443 (by decide) (q_cmp0.mpr rfl) ?_
    refine g_goto (tgt := 3230) X dL_law_2448 (by decide) ?_
    exact GG_sub [2, 3, 4, 5, 6] rfl (GG_widen (by omega) (by omega) (hnext m3 hI))
  · refine t_eqF 2441 X dL_law_2434 (by decide) (by decide) ?_
    refine g_lconst (v := (1 : Int32).toInt64) X dL_law_2437 (by decide) ?_
    refine g_goto (tgt := 2442) X dL_law_2438 (by decide) ?_
    refine g_lcmp X dL_law_2442 ?_
    refine t_eqT (tgt := 2448) X dL_law_2443 (by decide) (q_cmp0.mpr rfl) ?_
    refine g_goto (tgt := 3230) X dL_law_2448 (by decide) ?_
    exact GG_sub [2, 3, 4, 5, 6] rfl (GG_widen (by omega) (by omega) (hnext m3 hI))
theorem dL_law_2451 : decode cL_law 2451 = .ok (.aload_n 1, 1) := by decide +kernel
theorem dL_law_2452 : decode cL_law 2452 = .ok (.aload_n 0, 1) := by decide +kernel
theorem dL_law_2453 : decode cL_law 2453 = .ok (.iload 4, 2) := by decide +kernel
theorem dL_law_2455 : decode cL_law 2455 = .ok (.iconst 1, 1) := by decide +kernel
theorem dL_law_2456 : decode cL_law 2456 = .ok (.iadd, 1) := by decide +kernel
theorem dL_law_2457 : decode cL_law 2457 = .ok (.iaload, 1) := by decide +kernel
theorem dL_law_2458 : decode cL_law 2458 = .ok (.aload_n 0, 1) := by decide +kernel
theorem dL_law_2459 : decode cL_law 2459 = .ok (.iload 4, 2) := by decide +kernel
theorem dL_law_2461 : decode cL_law 2461 = .ok (.iconst 2, 1) := by decide +kernel
theorem dL_law_2462 : decode cL_law 2462 = .ok (.iadd, 1) := by decide +kernel
theorem dL_law_2463 : decode cL_law 2463 = .ok (.iaload, 1) := by decide +kernel
theorem dL_law_2464 : decode cL_law 2464 = .ok (.aload_n 0, 1) := by decide +kernel
theorem dL_law_2465 : decode cL_law 2465 = .ok (.iload 4, 2) := by decide +kernel
theorem dL_law_2467 : decode cL_law 2467 = .ok (.iconst 3, 1) := by decide +kernel
theorem dL_law_2468 : decode cL_law 2468 = .ok (.iadd, 1) := by decide +kernel
theorem dL_law_2469 : decode cL_law 2469 = .ok (.iaload, 1) := by decide +kernel
theorem dL_law_2470 : decode cL_law 2470 = .ok (.aload_n 3, 1) := by decide +kernel
theorem dL_law_2471 : decode cL_law 2471 = .ok (.invokestatic 261, 3) := by decide +kernel
theorem dL_law_2474 : decode cL_law 2474 = .ok (.istore 5, 2) := by decide +kernel
theorem dL_law_2476 : decode cL_law 2476 = .ok (.aload_n 2, 1) := by decide +kernel
theorem dL_law_2477 : decode cL_law 2477 = .ok (.aload_n 0, 1) := by decide +kernel
theorem dL_law_2478 : decode cL_law 2478 = .ok (.iload 4, 2) := by decide +kernel
theorem dL_law_2480 : decode cL_law 2480 = .ok (.iconst 1, 1) := by decide +kernel
theorem dL_law_2481 : decode cL_law 2481 = .ok (.iadd, 1) := by decide +kernel
theorem dL_law_2482 : decode cL_law 2482 = .ok (.iaload, 1) := by decide +kernel
theorem dL_law_2483 : decode cL_law 2483 = .ok (.aload_n 0, 1) := by decide +kernel
theorem dL_law_2484 : decode cL_law 2484 = .ok (.iload 4, 2) := by decide +kernel
theorem dL_law_2486 : decode cL_law 2486 = .ok (.iconst 2, 1) := by decide +kernel
theorem dL_law_2487 : decode cL_law 2487 = .ok (.iadd, 1) := by decide +kernel
theorem dL_law_2488 : decode cL_law 2488 = .ok (.iaload, 1) := by decide +kernel
theorem dL_law_2489 : decode cL_law 2489 = .ok (.aload_n 0, 1) := by decide +kernel
theorem dL_law_2490 : decode cL_law 2490 = .ok (.iload 4, 2) := by decide +kernel
theorem dL_law_2492 : decode cL_law 2492 = .ok (.iconst 3, 1) := by decide +kernel
theorem dL_law_2493 : decode cL_law 2493 = .ok (.iadd, 1) := by decide +kernel
theorem dL_law_2494 : decode cL_law 2494 = .ok (.iaload, 1) := by decide +kernel
theorem dL_law_2495 : decode cL_law 2495 = .ok (.invokevirtual 263, 3) := by decide +kernel
theorem dL_law_2498 : decode cL_law 2498 = .ok (.istore 6, 2) := by decide +kernel
theorem dL_law_2500 : decode cL_law 2500 = .ok (.aload_n 2, 1) := by decide +kernel
theorem dL_law_2501 : decode cL_law 2501 = .ok (.invokevirtual 157, 3) := by decide +kernel
theorem dL_law_2504 : decode cL_law 2504 = .ok (.iload 5, 2) := by decide +kernel
theorem dL_law_2506 : decode cL_law 2506 = .ok (.if_icmp .eq 5, 3) := by decide +kernel
theorem dL_law_2511 : decode cL_law 2511 = .ok (.iload 5, 2) := by decide +kernel
theorem dL_law_2513 : decode cL_law 2513 = .ok (.ifCond .ne 15, 3) := by decide +kernel
theorem dL_law_2516 : decode cL_law 2516 = .ok (.aload_n 3, 1) := by decide +kernel
theorem dL_law_2517 : decode cL_law 2517 = .ok (.iconst 0, 1) := by decide +kernel
theorem dL_law_2518 : decode cL_law 2518 = .ok (.laload, 1) := by decide +kernel
theorem dL_law_2519 : decode cL_law 2519 = .ok (.iload 6, 2) := by decide +kernel
theorem dL_law_2521 : decode cL_law 2521 = .ok (.i2l, 1) := by decide +kernel
theorem dL_law_2522 : decode cL_law 2522 = .ok (.lcmp, 1) := by decide +kernel
theorem dL_law_2523 : decode cL_law 2523 = .ok (.ifCond .eq 5, 3) := by decide +kernel
theorem dL_law_2528 : decode cL_law 2528 = .ok (.goto 702, 3) := by decide +kernel
set_option maxRecDepth 100000 in
set_option maxHeartbeats 3200000 in
theorem lc_32 {k : QC} {mm : QM} {a b sb L sv i : Nat} {xs : Nat → Int32} {t : Int} (hL : LX k sb L xs) (h : LINV sv t mm) (ht : t + 2 ≤ 600) (hi : i + 6 ≤ L) (ha : a + 20 ≤ 601024) (hb : b + 900 ≤ 7293034) (hnext : ∀ m3, LINV sv (t + 1) m3 → GG k (lenv sb sv i) [] m3 3230 (a + 20) (b + 900)) : GG k (lenv sb sv i) [] mm 2451 a b := by
  have X := hL.1
  have hR := hL.2.1
  have hN := hL.2.2.1
  have htr := hL.2.2.2.1
  have hT : TH k (fun _ _ => False) := TH_F
  refine t_al 2 X dL_law_2451 rfl rfl ?_
  refine t_arg (p0 := 1) (p4 := 0) hL (by decide) (by decide) hi rfl rfl dL_law_2452 dL_law_2453 dL_law_2455 dL_law_2456 dL_law_2457 ?_
  refine t_arg (p0 := 1) (p4 := 0) hL (by decide) (by decide) hi rfl rfl dL_law_2458 dL_law_2459 dL_law_2461 dL_law_2462 dL_law_2463 ?_
  refine t_arg (p0 := 1) (p4 := 0) hL (by decide) (by decide) hi rfl rfl dL_law_2464 dL_law_2465 dL_law_2467 dL_law_2468 dL_law_2469 ?_
  refine t_al 4 X dL_law_2470 rfl rfl ?_
  refine h_callS (rok (AWL sv t (F_X7_answerOf (sv + 20) (xs (i + 1)) (xs (i + 2)) (xs (i + 3))) (fun _ => True))) (st := []) X hT htr (E_L_answerOf sv (xs (i + 1)) (xs (i + 2)) (xs (i + 3))) lkh_answerOf stl_answerOf (qW_at 1147 (by decide +kernel) rfl) rfl (by rw [hR]; exact ⟨Nat.le_of_ble_eq_true rfl, Nat.le_of_ble_eq_true rfl⟩) (by exact Nat.le_of_ble_eq_true rfl) (by rw [hR]; exact ⟨by show _ ≤ 601024; omega, by show _ ≤ 7293034; omega⟩) dL_law_2471 (by rfl) (W_answerOf h ht (xs (i + 1)) (xs (i + 2)) (xs (i + 3))) (fun _ _ q => rok_x q) (fun v m2 q => ?_)
  obtain ⟨_, hv0, kk, w, G', S', S0, rfl, hk, hC, hs, h45, hR0, h62, hout, hZ, hy⟩ := q
  cases hv0
  refine g_istore (env' := [(5, .int (I kk)), (4, .int (I (i : Int))), (0, .ref sb), (1, .ref sv), (2, .ref (sv + 20)), (3, .ref (sv + 62))]) X dL_law_2474 (by rw [hN]; decide) rfl ?_
  refine t_al 4 X dL_law_2476 rfl rfl ?_
  refine t_arg (p0 := 2) (p4 := 1) hL (by decide) (by decide) hi rfl rfl dL_law_2477 dL_law_2478 dL_law_2480 dL_law_2481 dL_law_2482 ?_
  refine t_arg (p0 := 2) (p4 := 1) hL (by decide) (by decide) hi rfl rfl dL_law_2483 dL_law_2484 dL_law_2486 dL_law_2487 dL_law_2488 ?_
  refine t_arg (p0 := 2) (p4 := 1) hL (by decide) (by decide) hi rfl rfl dL_law_2489 dL_law_2490 dL_law_2492 dL_law_2493 dL_law_2494 ?_
  obtain ⟨m3, e3, hR3, hF⟩ := hy m2 hR0
  refine g_callV (st := []) (q := sv + 20) (av := [.int (xs (i + 1)), .int (xs (i + 2)), .int (xs (i + 3))]) (x := F_X7_answerOf (sv + 20) (xs (i + 1)) (xs (i + 2)) (xs (i + 3))) (T := fun _ _ => False) X hT htr rfl hR0.ob (M_X7_answerOf (sv + 20) (xs (i + 1)) (xs (i + 2)) (xs (i + 3))) lk_X7_answerOf im_X7_answerOf se_X7_answerOf (qW_at 1781 (by decide +kernel) rfl) rfl (by rw [hR]; exact ⟨Nat.le_of_ble_eq_true rfl, Nat.le_of_ble_eq_true rfl⟩) (by exact Nat.le_of_ble_eq_true rfl) (by rw [hR]; exact ⟨by show _ ≤ 601024; omega, by show _ ≤ 7293034; omega⟩) dL_law_2495 ?_
  unfold qwp
  rw [e3]
  show GG k _ (.int w :: []) m3 _ _ _
  refine g_istore (env' := [(6, .int w), (5, .int (I kk)), (4, .int (I (i : Int))), (0, .ref sb), (1, .ref sv), (2, .ref (sv + 20)), (3, .ref (sv + 62))]) X dL_law_2498 (by rw [hN]; decide) rfl ?_
  refine t_al 5 X dL_law_2500 rfl rfl ?_
  refine g_callV (st := []) (q := sv + 20) (av := []) (x := F_X7_thrown (sv + 20)) (T := fun _ _ => False) X hT htr rfl hR3.ob (M_X7_thrown (sv + 20)) lk_X7_thrown im_X7_thrown se_X7_thrown (qW_at 1440 (by decide +kernel) rfl) rfl (by rw [hR]; exact ⟨Nat.le_of_ble_eq_true rfl, Nat.le_of_ble_eq_true rfl⟩) (by exact Nat.le_of_ble_eq_true rfl) (by rw [hR]; exact ⟨by show _ ≤ 601024; omega, by show _ ≤ 7293034; omega⟩) dL_law_2501 ?_
  unfold qwp
  rw [th_val hR3, h45]
  show GG k _ (.int (I kk) :: []) m3 _ _ _
  refine g_iload 1 X dL_law_2504 rfl ?_
  refine t_ceqT (tgt := 2511) X dL_law_2506 (by decide) rfl ?_
  refine g_iload 1 X dL_law_2511 rfl ?_
  have hI : LINV sv (t + 1) m3 := ⟨G', S', hC.fm hF, hs, hR3, (hF.ty _).trans h62⟩
  by_cases hkk : kk = 0
  case neg =>
    refine t_neT (tgt := 2528) X dL_law_2513 (by decide) (fun q => hkk ((I_inj (a := kk) (b := 0) (by omega) (by omega) (by omega) (by omega)).mp q)) ?_
    refine g_goto (tgt := 3230) X dL_law_2528 (by decide) ?_
    exact GG_sub [2, 3, 4, 5, 6] rfl (GG_widen (by omega) (by omega) (hnext m3 hI))
  subst hkk
  refine t_neF 2528 X dL_law_2513 (by decide) (by decide) ?_
  refine t_al 6 X dL_law_2516 rfl rfl ?_
  refine g_iconst (v := I 0) X dL_law_2517 rfl ?_
  refine g_lald (q := sv + 62) (n := 1) X ((hF.ty _).trans h62) (by intro q; rcases q with q | q <;> exact absurd q (by decide)) dL_law_2518 ?_
  rw [show (I 0).toNatClampNeg = 0 from by decide, hF.al _ (Or.inr (by omega)), hout rfl]
  refine g_iload 0 X dL_law_2519 rfl ?_
  refine g_i2l X dL_law_2521 ?_
  refine g_lcmp X dL_law_2522 ?_
  refine t_eqT (tgt := 2528) X dL_law_2523 (by decide) (q_cmp0.mpr rfl) ?_
  refine g_goto (tgt := 3230) X dL_law_2528 (by decide) ?_
  exact GG_sub [2, 3, 4, 5, 6] rfl (GG_widen (by omega) (by omega) (hnext m3 hI))
theorem dL_law_2531 : decode cL_law 2531 = .ok (.aload_n 1, 1) := by decide +kernel
theorem dL_law_2532 : decode cL_law 2532 = .ok (.aload_n 0, 1) := by decide +kernel
theorem dL_law_2533 : decode cL_law 2533 = .ok (.iload 4, 2) := by decide +kernel
theorem dL_law_2535 : decode cL_law 2535 = .ok (.iconst 1, 1) := by decide +kernel
theorem dL_law_2536 : decode cL_law 2536 = .ok (.iadd, 1) := by decide +kernel
theorem dL_law_2537 : decode cL_law 2537 = .ok (.iaload, 1) := by decide +kernel
theorem dL_law_2538 : decode cL_law 2538 = .ok (.aload_n 0, 1) := by decide +kernel
theorem dL_law_2539 : decode cL_law 2539 = .ok (.iload 4, 2) := by decide +kernel
theorem dL_law_2541 : decode cL_law 2541 = .ok (.iconst 2, 1) := by decide +kernel
theorem dL_law_2542 : decode cL_law 2542 = .ok (.iadd, 1) := by decide +kernel
theorem dL_law_2543 : decode cL_law 2543 = .ok (.iaload, 1) := by decide +kernel
theorem dL_law_2544 : decode cL_law 2544 = .ok (.aload_n 0, 1) := by decide +kernel
theorem dL_law_2545 : decode cL_law 2545 = .ok (.iload 4, 2) := by decide +kernel
theorem dL_law_2547 : decode cL_law 2547 = .ok (.iconst 3, 1) := by decide +kernel
theorem dL_law_2548 : decode cL_law 2548 = .ok (.iadd, 1) := by decide +kernel
theorem dL_law_2549 : decode cL_law 2549 = .ok (.iaload, 1) := by decide +kernel
theorem dL_law_2550 : decode cL_law 2550 = .ok (.aload_n 3, 1) := by decide +kernel
theorem dL_law_2551 : decode cL_law 2551 = .ok (.invokestatic 264, 3) := by decide +kernel
theorem dL_law_2554 : decode cL_law 2554 = .ok (.istore 5, 2) := by decide +kernel
theorem dL_law_2556 : decode cL_law 2556 = .ok (.aload_n 2, 1) := by decide +kernel
theorem dL_law_2557 : decode cL_law 2557 = .ok (.aload_n 0, 1) := by decide +kernel
theorem dL_law_2558 : decode cL_law 2558 = .ok (.iload 4, 2) := by decide +kernel
theorem dL_law_2560 : decode cL_law 2560 = .ok (.iconst 1, 1) := by decide +kernel
theorem dL_law_2561 : decode cL_law 2561 = .ok (.iadd, 1) := by decide +kernel
theorem dL_law_2562 : decode cL_law 2562 = .ok (.iaload, 1) := by decide +kernel
theorem dL_law_2563 : decode cL_law 2563 = .ok (.aload_n 0, 1) := by decide +kernel
theorem dL_law_2564 : decode cL_law 2564 = .ok (.iload 4, 2) := by decide +kernel
theorem dL_law_2566 : decode cL_law 2566 = .ok (.iconst 2, 1) := by decide +kernel
theorem dL_law_2567 : decode cL_law 2567 = .ok (.iadd, 1) := by decide +kernel
theorem dL_law_2568 : decode cL_law 2568 = .ok (.iaload, 1) := by decide +kernel
theorem dL_law_2569 : decode cL_law 2569 = .ok (.aload_n 0, 1) := by decide +kernel
theorem dL_law_2570 : decode cL_law 2570 = .ok (.iload 4, 2) := by decide +kernel
theorem dL_law_2572 : decode cL_law 2572 = .ok (.iconst 3, 1) := by decide +kernel
theorem dL_law_2573 : decode cL_law 2573 = .ok (.iadd, 1) := by decide +kernel
theorem dL_law_2574 : decode cL_law 2574 = .ok (.iaload, 1) := by decide +kernel
theorem dL_law_2575 : decode cL_law 2575 = .ok (.invokevirtual 266, 3) := by decide +kernel
theorem dL_law_2578 : decode cL_law 2578 = .ok (.istore 6, 2) := by decide +kernel
theorem dL_law_2580 : decode cL_law 2580 = .ok (.aload_n 2, 1) := by decide +kernel
theorem dL_law_2581 : decode cL_law 2581 = .ok (.invokevirtual 157, 3) := by decide +kernel
theorem dL_law_2584 : decode cL_law 2584 = .ok (.iload 5, 2) := by decide +kernel
theorem dL_law_2586 : decode cL_law 2586 = .ok (.if_icmp .eq 5, 3) := by decide +kernel
theorem dL_law_2591 : decode cL_law 2591 = .ok (.iload 5, 2) := by decide +kernel
theorem dL_law_2593 : decode cL_law 2593 = .ok (.ifCond .ne 15, 3) := by decide +kernel
theorem dL_law_2596 : decode cL_law 2596 = .ok (.aload_n 3, 1) := by decide +kernel
theorem dL_law_2597 : decode cL_law 2597 = .ok (.iconst 0, 1) := by decide +kernel
theorem dL_law_2598 : decode cL_law 2598 = .ok (.laload, 1) := by decide +kernel
theorem dL_law_2599 : decode cL_law 2599 = .ok (.iload 6, 2) := by decide +kernel
theorem dL_law_2601 : decode cL_law 2601 = .ok (.i2l, 1) := by decide +kernel
theorem dL_law_2602 : decode cL_law 2602 = .ok (.lcmp, 1) := by decide +kernel
theorem dL_law_2603 : decode cL_law 2603 = .ok (.ifCond .eq 5, 3) := by decide +kernel
theorem dL_law_2608 : decode cL_law 2608 = .ok (.goto 622, 3) := by decide +kernel
set_option maxRecDepth 100000 in
set_option maxHeartbeats 3200000 in
theorem lc_33 {k : QC} {mm : QM} {a b sb L sv i : Nat} {xs : Nat → Int32} {t : Int} (hL : LX k sb L xs) (h : LINV sv t mm) (ht : t + 2 ≤ 600) (hi : i + 6 ≤ L) (ha : a + 20 ≤ 601024) (hb : b + 900 ≤ 7293034) (hnext : ∀ m3, LINV sv (t + 1) m3 → GG k (lenv sb sv i) [] m3 3230 (a + 20) (b + 900)) : GG k (lenv sb sv i) [] mm 2531 a b := by
  have X := hL.1
  have hR := hL.2.1
  have hN := hL.2.2.1
  have htr := hL.2.2.2.1
  have hT : TH k (fun _ _ => False) := TH_F
  refine t_al 2 X dL_law_2531 rfl rfl ?_
  refine t_arg (p0 := 1) (p4 := 0) hL (by decide) (by decide) hi rfl rfl dL_law_2532 dL_law_2533 dL_law_2535 dL_law_2536 dL_law_2537 ?_
  refine t_arg (p0 := 1) (p4 := 0) hL (by decide) (by decide) hi rfl rfl dL_law_2538 dL_law_2539 dL_law_2541 dL_law_2542 dL_law_2543 ?_
  refine t_arg (p0 := 1) (p4 := 0) hL (by decide) (by decide) hi rfl rfl dL_law_2544 dL_law_2545 dL_law_2547 dL_law_2548 dL_law_2549 ?_
  refine t_al 4 X dL_law_2550 rfl rfl ?_
  refine h_callS (rok (AWL sv t (F_X7_answerByLog (sv + 20) (xs (i + 1)) (xs (i + 2)) (xs (i + 3))) (fun _ => True))) (st := []) X hT htr (E_L_answerByLog sv (xs (i + 1)) (xs (i + 2)) (xs (i + 3))) lkh_answerByLog stl_answerByLog (qW_at 1158 (by decide +kernel) rfl) rfl (by rw [hR]; exact ⟨Nat.le_of_ble_eq_true rfl, Nat.le_of_ble_eq_true rfl⟩) (by exact Nat.le_of_ble_eq_true rfl) (by rw [hR]; exact ⟨by show _ ≤ 601024; omega, by show _ ≤ 7293034; omega⟩) dL_law_2551 (by rfl) (W_answerByLog h ht (xs (i + 1)) (xs (i + 2)) (xs (i + 3))) (fun _ _ q => rok_x q) (fun v m2 q => ?_)
  obtain ⟨_, hv0, kk, w, G', S', S0, rfl, hk, hC, hs, h45, hR0, h62, hout, hZ, hy⟩ := q
  cases hv0
  refine g_istore (env' := [(5, .int (I kk)), (4, .int (I (i : Int))), (0, .ref sb), (1, .ref sv), (2, .ref (sv + 20)), (3, .ref (sv + 62))]) X dL_law_2554 (by rw [hN]; decide) rfl ?_
  refine t_al 4 X dL_law_2556 rfl rfl ?_
  refine t_arg (p0 := 2) (p4 := 1) hL (by decide) (by decide) hi rfl rfl dL_law_2557 dL_law_2558 dL_law_2560 dL_law_2561 dL_law_2562 ?_
  refine t_arg (p0 := 2) (p4 := 1) hL (by decide) (by decide) hi rfl rfl dL_law_2563 dL_law_2564 dL_law_2566 dL_law_2567 dL_law_2568 ?_
  refine t_arg (p0 := 2) (p4 := 1) hL (by decide) (by decide) hi rfl rfl dL_law_2569 dL_law_2570 dL_law_2572 dL_law_2573 dL_law_2574 ?_
  obtain ⟨m3, e3, hR3, hF⟩ := hy m2 hR0
  refine g_callV (st := []) (q := sv + 20) (av := [.int (xs (i + 1)), .int (xs (i + 2)), .int (xs (i + 3))]) (x := F_X7_answerByLog (sv + 20) (xs (i + 1)) (xs (i + 2)) (xs (i + 3))) (T := fun _ _ => False) X hT htr rfl hR0.ob (M_X7_answerByLog (sv + 20) (xs (i + 1)) (xs (i + 2)) (xs (i + 3))) lk_X7_answerByLog im_X7_answerByLog se_X7_answerByLog (qW_at 1785 (by decide +kernel) rfl) rfl (by rw [hR]; exact ⟨Nat.le_of_ble_eq_true rfl, Nat.le_of_ble_eq_true rfl⟩) (by exact Nat.le_of_ble_eq_true rfl) (by rw [hR]; exact ⟨by show _ ≤ 601024; omega, by show _ ≤ 7293034; omega⟩) dL_law_2575 ?_
  unfold qwp
  rw [e3]
  show GG k _ (.int w :: []) m3 _ _ _
  refine g_istore (env' := [(6, .int w), (5, .int (I kk)), (4, .int (I (i : Int))), (0, .ref sb), (1, .ref sv), (2, .ref (sv + 20)), (3, .ref (sv + 62))]) X dL_law_2578 (by rw [hN]; decide) rfl ?_
  refine t_al 5 X dL_law_2580 rfl rfl ?_
  refine g_callV (st := []) (q := sv + 20) (av := []) (x := F_X7_thrown (sv + 20)) (T := fun _ _ => False) X hT htr rfl hR3.ob (M_X7_thrown (sv + 20)) lk_X7_thrown im_X7_thrown se_X7_thrown (qW_at 1440 (by decide +kernel) rfl) rfl (by rw [hR]; exact ⟨Nat.le_of_ble_eq_true rfl, Nat.le_of_ble_eq_true rfl⟩) (by exact Nat.le_of_ble_eq_true rfl) (by rw [hR]; exact ⟨by show _ ≤ 601024; omega, by show _ ≤ 7293034; omega⟩) dL_law_2581 ?_
  unfold qwp
  rw [th_val hR3, h45]
  show GG k _ (.int (I kk) :: []) m3 _ _ _
  refine g_iload 1 X dL_law_2584 rfl ?_
  refine t_ceqT (tgt := 2591) X dL_law_2586 (by decide) rfl ?_
  refine g_iload 1 X dL_law_2591 rfl ?_
  have hI : LINV sv (t + 1) m3 := ⟨G', S', hC.fm hF, hs, hR3, (hF.ty _).trans h62⟩
  by_cases hkk : kk = 0
  case neg =>
    refine t_neT (tgt := 2608) X dL_law_2593 (by decide) (fun q => hkk ((I_inj (a := kk) (b := 0) (by omega) (by omega) (by omega) (by omega)).mp q)) ?_
    refine g_goto (tgt := 3230) X dL_law_2608 (by decide) ?_
    exact GG_sub [2, 3, 4, 5, 6] rfl (GG_widen (by omega) (by omega) (hnext m3 hI))
  subst hkk
  refine t_neF 2608 X dL_law_2593 (by decide) (by decide) ?_
  refine t_al 6 X dL_law_2596 rfl rfl ?_
  refine g_iconst (v := I 0) X dL_law_2597 rfl ?_
  refine g_lald (q := sv + 62) (n := 1) X ((hF.ty _).trans h62) (by intro q; rcases q with q | q <;> exact absurd q (by decide)) dL_law_2598 ?_
  rw [show (I 0).toNatClampNeg = 0 from by decide, hF.al _ (Or.inr (by omega)), hout rfl]
  refine g_iload 0 X dL_law_2599 rfl ?_
  refine g_i2l X dL_law_2601 ?_
  refine g_lcmp X dL_law_2602 ?_
  refine t_eqT (tgt := 2608) X dL_law_2603 (by decide) (q_cmp0.mpr rfl) ?_
  refine g_goto (tgt := 3230) X dL_law_2608 (by decide) ?_
  exact GG_sub [2, 3, 4, 5, 6] rfl (GG_widen (by omega) (by omega) (hnext m3 hI))
theorem dL_law_2611 : decode cL_law 2611 = .ok (.aload_n 1, 1) := by decide +kernel
theorem dL_law_2612 : decode cL_law 2612 = .ok (.aload_n 0, 1) := by decide +kernel
theorem dL_law_2613 : decode cL_law 2613 = .ok (.iload 4, 2) := by decide +kernel
theorem dL_law_2615 : decode cL_law 2615 = .ok (.iconst 1, 1) := by decide +kernel
theorem dL_law_2616 : decode cL_law 2616 = .ok (.iadd, 1) := by decide +kernel
theorem dL_law_2617 : decode cL_law 2617 = .ok (.iaload, 1) := by decide +kernel
theorem dL_law_2618 : decode cL_law 2618 = .ok (.aload_n 3, 1) := by decide +kernel
theorem dL_law_2619 : decode cL_law 2619 = .ok (.invokestatic 267, 3) := by decide +kernel
theorem dL_law_2622 : decode cL_law 2622 = .ok (.istore 5, 2) := by decide +kernel
theorem dL_law_2624 : decode cL_law 2624 = .ok (.aload_n 2, 1) := by decide +kernel
theorem dL_law_2625 : decode cL_law 2625 = .ok (.aload_n 0, 1) := by decide +kernel
theorem dL_law_2626 : decode cL_law 2626 = .ok (.iload 4, 2) := by decide +kernel
theorem dL_law_2628 : decode cL_law 2628 = .ok (.iconst 1, 1) := by decide +kernel
theorem dL_law_2629 : decode cL_law 2629 = .ok (.iadd, 1) := by decide +kernel
theorem dL_law_2630 : decode cL_law 2630 = .ok (.iaload, 1) := by decide +kernel
theorem dL_law_2631 : decode cL_law 2631 = .ok (.invokevirtual 269, 3) := by decide +kernel
theorem dL_law_2634 : decode cL_law 2634 = .ok (.istore 6, 2) := by decide +kernel
theorem dL_law_2636 : decode cL_law 2636 = .ok (.aload_n 2, 1) := by decide +kernel
theorem dL_law_2637 : decode cL_law 2637 = .ok (.invokevirtual 157, 3) := by decide +kernel
theorem dL_law_2640 : decode cL_law 2640 = .ok (.iload 5, 2) := by decide +kernel
theorem dL_law_2642 : decode cL_law 2642 = .ok (.if_icmp .eq 5, 3) := by decide +kernel
theorem dL_law_2647 : decode cL_law 2647 = .ok (.iload 5, 2) := by decide +kernel
theorem dL_law_2649 : decode cL_law 2649 = .ok (.ifCond .ne 22, 3) := by decide +kernel
theorem dL_law_2652 : decode cL_law 2652 = .ok (.aload_n 3, 1) := by decide +kernel
theorem dL_law_2653 : decode cL_law 2653 = .ok (.iconst 0, 1) := by decide +kernel
theorem dL_law_2654 : decode cL_law 2654 = .ok (.laload, 1) := by decide +kernel
theorem dL_law_2655 : decode cL_law 2655 = .ok (.iload 6, 2) := by decide +kernel
theorem dL_law_2657 : decode cL_law 2657 = .ok (.ifCond .eq 7, 3) := by decide +kernel
theorem dL_law_2660 : decode cL_law 2660 = .ok (.lconst 1, 1) := by decide +kernel
theorem dL_law_2661 : decode cL_law 2661 = .ok (.goto 4, 3) := by decide +kernel
theorem dL_law_2664 : decode cL_law 2664 = .ok (.lconst 0, 1) := by decide +kernel
theorem dL_law_2665 : decode cL_law 2665 = .ok (.lcmp, 1) := by decide +kernel
theorem dL_law_2666 : decode cL_law 2666 = .ok (.ifCond .eq 5, 3) := by decide +kernel
theorem dL_law_2671 : decode cL_law 2671 = .ok (.goto 559, 3) := by decide +kernel
set_option maxRecDepth 100000 in
set_option maxHeartbeats 3200000 in
theorem lc_34 {k : QC} {mm : QM} {a b sb L sv i : Nat} {xs : Nat → Int32} {t : Int} (hL : LX k sb L xs) (h : LINV sv t mm) (ht : t + 2 ≤ 600) (hi : i + 6 ≤ L) (ha : a + 20 ≤ 601024) (hb : b + 900 ≤ 7293034) (hnext : ∀ m3, LINV sv (t + 1) m3 → GG k (lenv sb sv i) [] m3 3230 (a + 20) (b + 900)) : GG k (lenv sb sv i) [] mm 2611 a b := by
  have X := hL.1
  have hR := hL.2.1
  have hN := hL.2.2.1
  have htr := hL.2.2.2.1
  have hT : TH k (fun _ _ => False) := TH_F
  refine t_al 2 X dL_law_2611 rfl rfl ?_
  refine t_arg (p0 := 1) (p4 := 0) hL (by decide) (by decide) hi rfl rfl dL_law_2612 dL_law_2613 dL_law_2615 dL_law_2616 dL_law_2617 ?_
  refine t_al 4 X dL_law_2618 rfl rfl ?_
  refine h_callS (rok (AWL sv t (F_X7_agrees (sv + 20) (xs (i + 1))) (fun v => v = 0 ∨ v = 1))) (st := []) X hT htr (E_L_agrees sv (xs (i + 1))) lkh_agrees stl_agrees (qW_at 1175 (by decide +kernel) rfl) rfl (by rw [hR]; exact ⟨Nat.le_of_ble_eq_true rfl, Nat.le_of_ble_eq_true rfl⟩) (by exact Nat.le_of_ble_eq_true rfl) (by rw [hR]; exact ⟨by show _ ≤ 601024; omega, by show _ ≤ 7293034; omega⟩) dL_law_2619 (by rfl) (W_agrees h ht (xs (i + 1))) (fun _ _ q => rok_x q) (fun v m2 q => ?_)
  obtain ⟨_, hv0, kk, w, G', S', S0, rfl, hk, hC, hs, h45, hR0, h62, hout, hZ, hy⟩ := q
  cases hv0
  refine g_istore (env' := [(5, .int (I kk)), (4, .int (I (i : Int))), (0, .ref sb), (1, .ref sv), (2, .ref (sv + 20)), (3, .ref (sv + 62))]) X dL_law_2622 (by rw [hN]; decide) rfl ?_
  refine t_al 4 X dL_law_2624 rfl rfl ?_
  refine t_arg (p0 := 2) (p4 := 1) hL (by decide) (by decide) hi rfl rfl dL_law_2625 dL_law_2626 dL_law_2628 dL_law_2629 dL_law_2630 ?_
  obtain ⟨m3, e3, hR3, hF⟩ := hy m2 hR0
  refine g_callV (st := []) (q := sv + 20) (av := [.int (xs (i + 1))]) (x := F_X7_agrees (sv + 20) (xs (i + 1))) (T := fun _ _ => False) X hT htr rfl hR0.ob (M_X7_agrees (sv + 20) (xs (i + 1))) lk_X7_agrees im_X7_agrees se_X7_agrees (qW_at 1790 (by decide +kernel) rfl) rfl (by rw [hR]; exact ⟨Nat.le_of_ble_eq_true rfl, Nat.le_of_ble_eq_true rfl⟩) (by exact Nat.le_of_ble_eq_true rfl) (by rw [hR]; exact ⟨by show _ ≤ 601024; omega, by show _ ≤ 7293034; omega⟩) dL_law_2631 ?_
  unfold qwp
  rw [e3]
  show GG k _ (.int w :: []) m3 _ _ _
  refine g_istore (env' := [(6, .int w), (5, .int (I kk)), (4, .int (I (i : Int))), (0, .ref sb), (1, .ref sv), (2, .ref (sv + 20)), (3, .ref (sv + 62))]) X dL_law_2634 (by rw [hN]; decide) rfl ?_
  refine t_al 5 X dL_law_2636 rfl rfl ?_
  refine g_callV (st := []) (q := sv + 20) (av := []) (x := F_X7_thrown (sv + 20)) (T := fun _ _ => False) X hT htr rfl hR3.ob (M_X7_thrown (sv + 20)) lk_X7_thrown im_X7_thrown se_X7_thrown (qW_at 1440 (by decide +kernel) rfl) rfl (by rw [hR]; exact ⟨Nat.le_of_ble_eq_true rfl, Nat.le_of_ble_eq_true rfl⟩) (by exact Nat.le_of_ble_eq_true rfl) (by rw [hR]; exact ⟨by show _ ≤ 601024; omega, by show _ ≤ 7293034; omega⟩) dL_law_2637 ?_
  unfold qwp
  rw [th_val hR3, h45]
  show GG k _ (.int (I kk) :: []) m3 _ _ _
  refine g_iload 1 X dL_law_2640 rfl ?_
  refine t_ceqT (tgt := 2647) X dL_law_2642 (by decide) rfl ?_
  refine g_iload 1 X dL_law_2647 rfl ?_
  have hI : LINV sv (t + 1) m3 := ⟨G', S', hC.fm hF, hs, hR3, (hF.ty _).trans h62⟩
  by_cases hkk : kk = 0
  case neg =>
    refine t_neT (tgt := 2671) X dL_law_2649 (by decide) (fun q => hkk ((I_inj (a := kk) (b := 0) (by omega) (by omega) (by omega) (by omega)).mp q)) ?_
    refine g_goto (tgt := 3230) X dL_law_2671 (by decide) ?_
    exact GG_sub [2, 3, 4, 5, 6] rfl (GG_widen (by omega) (by omega) (hnext m3 hI))
  subst hkk
  refine t_neF 2671 X dL_law_2649 (by decide) (by decide) ?_
  refine t_al 6 X dL_law_2652 rfl rfl ?_
  refine g_iconst (v := I 0) X dL_law_2653 rfl ?_
  refine g_lald (q := sv + 62) (n := 1) X ((hF.ty _).trans h62) (by intro q; rcases q with q | q <;> exact absurd q (by decide)) dL_law_2654 ?_
  rw [show (I 0).toNatClampNeg = 0 from by decide, hF.al _ (Or.inr (by omega)), hout rfl]
  refine g_iload 0 X dL_law_2655 rfl ?_
  rcases hZ with rfl | rfl
  · refine t_eqT (tgt := 2664) X dL_law_2657 (by decide) rfl ?_
    refine g_lconst (v := (0 : Int32).toInt64) X dL_law_2664 (by decide) ?_
    refine g_lcmp X dL_law_2665 ?_
    refine t_eqT (tgt := 2671) X dL_law_2666 (by decide) (q_cmp0.mpr rfl) ?_
    refine g_goto (tgt := 3230) X dL_law_2671 (by decide) ?_
    exact GG_sub [2, 3, 4, 5, 6] rfl (GG_widen (by omega) (by omega) (hnext m3 hI))
  · refine t_eqF 2664 X dL_law_2657 (by decide) (by decide) ?_
    refine g_lconst (v := (1 : Int32).toInt64) X dL_law_2660 (by decide) ?_
    refine g_goto (tgt := 2665) X dL_law_2661 (by decide) ?_
    refine g_lcmp X dL_law_2665 ?_
    refine t_eqT (tgt := 2671) X dL_law_2666 (by decide) (q_cmp0.mpr rfl) ?_
    refine g_goto (tgt := 3230) X dL_law_2671 (by decide) ?_
    exact GG_sub [2, 3, 4, 5, 6] rfl (GG_widen (by omega) (by omega) (hnext m3 hI))
theorem dL_law_2674 : decode cL_law 2674 = .ok (.aload_n 1, 1) := by decide +kernel
theorem dL_law_2675 : decode cL_law 2675 = .ok (.aload_n 0, 1) := by decide +kernel
theorem dL_law_2676 : decode cL_law 2676 = .ok (.iload 4, 2) := by decide +kernel
theorem dL_law_2678 : decode cL_law 2678 = .ok (.iconst 1, 1) := by decide +kernel
theorem dL_law_2679 : decode cL_law 2679 = .ok (.iadd, 1) := by decide +kernel
theorem dL_law_2680 : decode cL_law 2680 = .ok (.iaload, 1) := by decide +kernel
theorem dL_law_2681 : decode cL_law 2681 = .ok (.aload_n 3, 1) := by decide +kernel
theorem dL_law_2682 : decode cL_law 2682 = .ok (.invokestatic 270, 3) := by decide +kernel
theorem dL_law_2685 : decode cL_law 2685 = .ok (.istore 5, 2) := by decide +kernel
theorem dL_law_2687 : decode cL_law 2687 = .ok (.aload_n 2, 1) := by decide +kernel
theorem dL_law_2688 : decode cL_law 2688 = .ok (.aload_n 0, 1) := by decide +kernel
theorem dL_law_2689 : decode cL_law 2689 = .ok (.iload 4, 2) := by decide +kernel
theorem dL_law_2691 : decode cL_law 2691 = .ok (.iconst 1, 1) := by decide +kernel
theorem dL_law_2692 : decode cL_law 2692 = .ok (.iadd, 1) := by decide +kernel
theorem dL_law_2693 : decode cL_law 2693 = .ok (.iaload, 1) := by decide +kernel
theorem dL_law_2694 : decode cL_law 2694 = .ok (.invokevirtual 272, 3) := by decide +kernel
theorem dL_law_2697 : decode cL_law 2697 = .ok (.istore 6, 2) := by decide +kernel
theorem dL_law_2699 : decode cL_law 2699 = .ok (.aload_n 2, 1) := by decide +kernel
theorem dL_law_2700 : decode cL_law 2700 = .ok (.invokevirtual 157, 3) := by decide +kernel
theorem dL_law_2703 : decode cL_law 2703 = .ok (.iload 5, 2) := by decide +kernel
theorem dL_law_2705 : decode cL_law 2705 = .ok (.if_icmp .eq 5, 3) := by decide +kernel
theorem dL_law_2710 : decode cL_law 2710 = .ok (.iload 5, 2) := by decide +kernel
theorem dL_law_2712 : decode cL_law 2712 = .ok (.ifCond .ne 15, 3) := by decide +kernel
theorem dL_law_2715 : decode cL_law 2715 = .ok (.aload_n 3, 1) := by decide +kernel
theorem dL_law_2716 : decode cL_law 2716 = .ok (.iconst 0, 1) := by decide +kernel
theorem dL_law_2717 : decode cL_law 2717 = .ok (.laload, 1) := by decide +kernel
theorem dL_law_2718 : decode cL_law 2718 = .ok (.iload 6, 2) := by decide +kernel
theorem dL_law_2720 : decode cL_law 2720 = .ok (.i2l, 1) := by decide +kernel
theorem dL_law_2721 : decode cL_law 2721 = .ok (.lcmp, 1) := by decide +kernel
theorem dL_law_2722 : decode cL_law 2722 = .ok (.ifCond .eq 5, 3) := by decide +kernel
theorem dL_law_2727 : decode cL_law 2727 = .ok (.goto 503, 3) := by decide +kernel
set_option maxRecDepth 100000 in
set_option maxHeartbeats 3200000 in
theorem lc_35 {k : QC} {mm : QM} {a b sb L sv i : Nat} {xs : Nat → Int32} {t : Int} (hL : LX k sb L xs) (h : LINV sv t mm) (ht : t + 2 ≤ 600) (hi : i + 6 ≤ L) (ha : a + 20 ≤ 601024) (hb : b + 900 ≤ 7293034) (hnext : ∀ m3, LINV sv (t + 1) m3 → GG k (lenv sb sv i) [] m3 3230 (a + 20) (b + 900)) : GG k (lenv sb sv i) [] mm 2674 a b := by
  have X := hL.1
  have hR := hL.2.1
  have hN := hL.2.2.1
  have htr := hL.2.2.2.1
  have hT : TH k (fun _ _ => False) := TH_F
  refine t_al 2 X dL_law_2674 rfl rfl ?_
  refine t_arg (p0 := 1) (p4 := 0) hL (by decide) (by decide) hi rfl rfl dL_law_2675 dL_law_2676 dL_law_2678 dL_law_2679 dL_law_2680 ?_
  refine t_al 4 X dL_law_2681 rfl rfl ?_
  refine h_callS (rok (AWL sv t (F_X7_proposals (sv + 20) (xs (i + 1))) (fun _ => True))) (st := []) X hT htr (E_L_proposals sv (xs (i + 1))) lkh_proposals stl_proposals (qW_at 1189 (by decide +kernel) rfl) rfl (by rw [hR]; exact ⟨Nat.le_of_ble_eq_true rfl, Nat.le_of_ble_eq_true rfl⟩) (by exact Nat.le_of_ble_eq_true rfl) (by rw [hR]; exact ⟨by show _ ≤ 601024; omega, by show _ ≤ 7293034; omega⟩) dL_law_2682 (by rfl) (W_proposals h ht (xs (i + 1))) (fun _ _ q => rok_x q) (fun v m2 q => ?_)
  obtain ⟨_, hv0, kk, w, G', S', S0, rfl, hk, hC, hs, h45, hR0, h62, hout, hZ, hy⟩ := q
  cases hv0
  refine g_istore (env' := [(5, .int (I kk)), (4, .int (I (i : Int))), (0, .ref sb), (1, .ref sv), (2, .ref (sv + 20)), (3, .ref (sv + 62))]) X dL_law_2685 (by rw [hN]; decide) rfl ?_
  refine t_al 4 X dL_law_2687 rfl rfl ?_
  refine t_arg (p0 := 2) (p4 := 1) hL (by decide) (by decide) hi rfl rfl dL_law_2688 dL_law_2689 dL_law_2691 dL_law_2692 dL_law_2693 ?_
  obtain ⟨m3, e3, hR3, hF⟩ := hy m2 hR0
  refine g_callV (st := []) (q := sv + 20) (av := [.int (xs (i + 1))]) (x := F_X7_proposals (sv + 20) (xs (i + 1))) (T := fun _ _ => False) X hT htr rfl hR0.ob (M_X7_proposals (sv + 20) (xs (i + 1))) lk_X7_proposals im_X7_proposals se_X7_proposals (qW_at 1794 (by decide +kernel) rfl) rfl (by rw [hR]; exact ⟨Nat.le_of_ble_eq_true rfl, Nat.le_of_ble_eq_true rfl⟩) (by exact Nat.le_of_ble_eq_true rfl) (by rw [hR]; exact ⟨by show _ ≤ 601024; omega, by show _ ≤ 7293034; omega⟩) dL_law_2694 ?_
  unfold qwp
  rw [e3]
  show GG k _ (.int w :: []) m3 _ _ _
  refine g_istore (env' := [(6, .int w), (5, .int (I kk)), (4, .int (I (i : Int))), (0, .ref sb), (1, .ref sv), (2, .ref (sv + 20)), (3, .ref (sv + 62))]) X dL_law_2697 (by rw [hN]; decide) rfl ?_
  refine t_al 5 X dL_law_2699 rfl rfl ?_
  refine g_callV (st := []) (q := sv + 20) (av := []) (x := F_X7_thrown (sv + 20)) (T := fun _ _ => False) X hT htr rfl hR3.ob (M_X7_thrown (sv + 20)) lk_X7_thrown im_X7_thrown se_X7_thrown (qW_at 1440 (by decide +kernel) rfl) rfl (by rw [hR]; exact ⟨Nat.le_of_ble_eq_true rfl, Nat.le_of_ble_eq_true rfl⟩) (by exact Nat.le_of_ble_eq_true rfl) (by rw [hR]; exact ⟨by show _ ≤ 601024; omega, by show _ ≤ 7293034; omega⟩) dL_law_2700 ?_
  unfold qwp
  rw [th_val hR3, h45]
  show GG k _ (.int (I kk) :: []) m3 _ _ _
  refine g_iload 1 X dL_law_2703 rfl ?_
  refine t_ceqT (tgt := 2710) X dL_law_2705 (by decide) rfl ?_
  refine g_iload 1 X dL_law_2710 rfl ?_
  have hI : LINV sv (t + 1) m3 := ⟨G', S', hC.fm hF, hs, hR3, (hF.ty _).trans h62⟩
  by_cases hkk : kk = 0
  case neg =>
    refine t_neT (tgt := 2727) X dL_law_2712 (by decide) (fun q => hkk ((I_inj (a := kk) (b := 0) (by omega) (by omega) (by omega) (by omega)).mp q)) ?_
    refine g_goto (tgt := 3230) X dL_law_2727 (by decide) ?_
    exact GG_sub [2, 3, 4, 5, 6] rfl (GG_widen (by omega) (by omega) (hnext m3 hI))
  subst hkk
  refine t_neF 2727 X dL_law_2712 (by decide) (by decide) ?_
  refine t_al 6 X dL_law_2715 rfl rfl ?_
  refine g_iconst (v := I 0) X dL_law_2716 rfl ?_
  refine g_lald (q := sv + 62) (n := 1) X ((hF.ty _).trans h62) (by intro q; rcases q with q | q <;> exact absurd q (by decide)) dL_law_2717 ?_
  rw [show (I 0).toNatClampNeg = 0 from by decide, hF.al _ (Or.inr (by omega)), hout rfl]
  refine g_iload 0 X dL_law_2718 rfl ?_
  refine g_i2l X dL_law_2720 ?_
  refine g_lcmp X dL_law_2721 ?_
  refine t_eqT (tgt := 2727) X dL_law_2722 (by decide) (q_cmp0.mpr rfl) ?_
  refine g_goto (tgt := 3230) X dL_law_2727 (by decide) ?_
  exact GG_sub [2, 3, 4, 5, 6] rfl (GG_widen (by omega) (by omega) (hnext m3 hI))
