/-! the law's loop, its start; the claim -/
theorem dL_law_0 : decode cL_law 0 = .ok (.new 8, 3) := by decide +kernel
theorem dL_law_3 : decode cL_law 3 = .ok (.dup, 1) := by decide +kernel
theorem dL_law_4 : decode cL_law 4 = .ok (.invokespecial 147, 3) := by decide +kernel
theorem dL_law_7 : decode cL_law 7 = .ok (.astore_n 1, 1) := by decide +kernel
theorem dL_law_8 : decode cL_law 8 = .ok (.new 148, 3) := by decide +kernel
theorem dL_law_11 : decode cL_law 11 = .ok (.dup, 1) := by decide +kernel
theorem dL_law_12 : decode cL_law 12 = .ok (.invokespecial 150, 3) := by decide +kernel
theorem dL_law_15 : decode cL_law 15 = .ok (.astore_n 2, 1) := by decide +kernel
theorem dL_law_16 : decode cL_law 16 = .ok (.iconst 1, 1) := by decide +kernel
theorem dL_law_17 : decode cL_law 17 = .ok (.newarray .long, 2) := by decide +kernel
theorem dL_law_19 : decode cL_law 19 = .ok (.astore_n 3, 1) := by decide +kernel
theorem dL_law_20 : decode cL_law 20 = .ok (.iconst 0, 1) := by decide +kernel
theorem dL_law_21 : decode cL_law 21 = .ok (.istore 4, 2) := by decide +kernel
theorem dL_law_23 : decode cL_law 23 = .ok (.iload 4, 2) := by decide +kernel
theorem dL_law_25 : decode cL_law 25 = .ok (.aload_n 0, 1) := by decide +kernel
theorem dL_law_26 : decode cL_law 26 = .ok (.arraylength, 1) := by decide +kernel
theorem dL_law_27 : decode cL_law 27 = .ok (.bipush 6, 2) := by decide +kernel
theorem dL_law_29 : decode cL_law 29 = .ok (.isub, 1) := by decide +kernel
theorem dL_law_30 : decode cL_law 30 = .ok (.if_icmp .gt 3206, 3) := by decide +kernel
theorem dL_law_33 : decode cL_law 33 = .ok (.aload_n 0, 1) := by decide +kernel
theorem dL_law_34 : decode cL_law 34 = .ok (.iload 4, 2) := by decide +kernel
theorem dL_law_36 : decode cL_law 36 = .ok (.iaload, 1) := by decide +kernel
theorem dL_law_37 : decode cL_law 37 = .ok (.bipush 63, 2) := by decide +kernel
theorem dL_law_39 : decode cL_law 39 = .ok (.iand, 1) := by decide +kernel
theorem dL_law_40 : decode cL_law 40 = .ok (.tableswitch 3190 0 42 #[188, 256, 336, 404, 472, 576, 668, 760, 828, 896, 976, 1072, 1128, 1184, 1240, 1296, 1388, 1468, 1560, 1623, 1636, 1692, 1748, 1804, 1872, 1885, 1960, 2028, 2096, 2176, 2256, 2336, 2411, 2491, 2571, 2634, 2690, 2758, 2826, 2906, 2986, 3042, 3110], 188) := by decide +kernel
theorem dL_law_3230 : decode cL_law 3230 = .ok (.iinc 4 6, 3) := by decide +kernel
theorem dL_law_3233 : decode cL_law 3233 = .ok (.goto (-3210), 3) := by decide +kernel
theorem dL_law_3236 : decode cL_law 3236 = .ok (.iconst 1, 1) := by decide +kernel
theorem dL_law_3237 : decode cL_law 3237 = .ok (.ireturn, 1) := by decide +kernel
theorem u3_dec : ∀ n : Nat, n < 64 → (UInt32.ofNat n).toInt32 = I n := by decide +kernel
theorem and63 (x : Int32) : ∃ n : Nat, n < 64 ∧ x &&& I 63 = I n := by
  refine ⟨(x &&& I 63).toUInt32.toNat, ?_, ?_⟩
  · rw [Int32.toUInt32_and, UInt32.toNat_and]
    have : x.toUInt32.toNat &&& (I 63).toUInt32.toNat ≤ (I 63).toUInt32.toNat := Nat.and_le_right
    have e : (I 63).toUInt32.toNat = 63 := by decide
    omega
  · have h : (x &&& I 63).toUInt32.toNat < 64 := by
      rw [Int32.toUInt32_and, UInt32.toNat_and]
      have : x.toUInt32.toNat &&& (I 63).toUInt32.toNat ≤ (I 63).toUInt32.toNat := Nat.and_le_right
      have e : (I 63).toUInt32.toNat = 63 := by decide
      omega
    rw [← u3_dec _ h, UInt32.ofNat_toNat, Int32.toInt32_toUInt32]
theorem LINV.up {sv : Nat} {t : Int} {m : QM} (h : LINV sv t m) (ht : t + 2 ≤ 600) : LINV sv (t + 1) m := by
  obtain ⟨G, S, hC, hs, hR, h62⟩ := h
  exact ⟨G, S, hC, hs.up (by omega) (by omega), hR, h62⟩
set_option maxRecDepth 100000 in
set_option maxHeartbeats 4000000 in
theorem law_step {k : QC} {mm : QM} {a b sb L sv i : Nat} {xs : Nat → Int32} {t : Int} (hL : LX k sb L xs) (h : LINV sv t mm) (ht : t + 2 ≤ 600) (hi : i + 6 ≤ L) (ha : a + 20 ≤ 601024) (hb : b + 900 ≤ 7293034) (hnext : ∀ m3, LINV sv (t + 1) m3 → GG k (lenv sb sv i) [] m3 3230 (a + 20) (b + 900)) : GG k (lenv sb sv i) [] mm 33 a b := by
  have X := hL.1
  refine t_arg0 (p0 := 1) (p4 := 0) hL hi rfl rfl dL_law_33 dL_law_34 dL_law_36 ?_
  refine g_bipush (v := I 63) X dL_law_37 (by decide) ?_
  refine g_iand X dL_law_39 ?_
  obtain ⟨n, hn, e⟩ := and63 (xs i)
  rw [e]
  by_cases hd : 43 ≤ n
  · exact fun H locs ls z hH hl hls => lv_tableOut X.1 X.2.1 dL_law_40 (Or.inr (by rw [toInt_I (by omega) (by omega)]; omega)) (tgt := 3230) (by decide) (GG_widen (by omega) (by omega) (hnext mm (h.up ht)) H locs ls z hH hl hls)
  · rcases (by omega : n = 0 ∨ n = 1 ∨ n = 2 ∨ n = 3 ∨ n = 4 ∨ n = 5 ∨ n = 6 ∨ n = 7 ∨ n = 8 ∨ n = 9 ∨ n = 10 ∨ n = 11 ∨ n = 12 ∨ n = 13 ∨ n = 14 ∨ n = 15 ∨ n = 16 ∨ n = 17 ∨ n = 18 ∨ n = 19 ∨ n = 20 ∨ n = 21 ∨ n = 22 ∨ n = 23 ∨ n = 24 ∨ n = 25 ∨ n = 26 ∨ n = 27 ∨ n = 28 ∨ n = 29 ∨ n = 30 ∨ n = 31 ∨ n = 32 ∨ n = 33 ∨ n = 34 ∨ n = 35 ∨ n = 36 ∨ n = 37 ∨ n = 38 ∨ n = 39 ∨ n = 40 ∨ n = 41 ∨ n = 42) with rfl | rfl | rfl | rfl | rfl | rfl | rfl | rfl | rfl | rfl | rfl | rfl | rfl | rfl | rfl | rfl | rfl | rfl | rfl | rfl | rfl | rfl | rfl | rfl | rfl | rfl | rfl | rfl | rfl | rfl | rfl | rfl | rfl | rfl | rfl | rfl | rfl | rfl | rfl | rfl | rfl | rfl | rfl
    · exact fun H locs ls z hH hl hls => lv_tableIn X.1 X.2.1 dL_law_40 (by decide) (by decide) (off := 188) (by decide) (tgt := 228) (by decide) (lc_0 hL h ht hi ha hb hnext H locs ls z hH hl hls)
    · exact fun H locs ls z hH hl hls => lv_tableIn X.1 X.2.1 dL_law_40 (by decide) (by decide) (off := 256) (by decide) (tgt := 296) (by decide) (lc_1 hL h ht hi ha hb hnext H locs ls z hH hl hls)
    · exact fun H locs ls z hH hl hls => lv_tableIn X.1 X.2.1 dL_law_40 (by decide) (by decide) (off := 336) (by decide) (tgt := 376) (by decide) (lc_2 hL h ht hi ha hb hnext H locs ls z hH hl hls)
    · exact fun H locs ls z hH hl hls => lv_tableIn X.1 X.2.1 dL_law_40 (by decide) (by decide) (off := 404) (by decide) (tgt := 444) (by decide) (lc_3 hL h ht hi ha hb hnext H locs ls z hH hl hls)
    · exact fun H locs ls z hH hl hls => lv_tableIn X.1 X.2.1 dL_law_40 (by decide) (by decide) (off := 472) (by decide) (tgt := 512) (by decide) (lc_4 hL h ht hi ha hb hnext H locs ls z hH hl hls)
    · exact fun H locs ls z hH hl hls => lv_tableIn X.1 X.2.1 dL_law_40 (by decide) (by decide) (off := 576) (by decide) (tgt := 616) (by decide) (lc_5 hL h ht hi ha hb hnext H locs ls z hH hl hls)
    · exact fun H locs ls z hH hl hls => lv_tableIn X.1 X.2.1 dL_law_40 (by decide) (by decide) (off := 668) (by decide) (tgt := 708) (by decide) (lc_6 hL h ht hi ha hb hnext H locs ls z hH hl hls)
    · exact fun H locs ls z hH hl hls => lv_tableIn X.1 X.2.1 dL_law_40 (by decide) (by decide) (off := 760) (by decide) (tgt := 800) (by decide) (lc_7 hL h ht hi ha hb hnext H locs ls z hH hl hls)
    · exact fun H locs ls z hH hl hls => lv_tableIn X.1 X.2.1 dL_law_40 (by decide) (by decide) (off := 828) (by decide) (tgt := 868) (by decide) (lc_8 hL h ht hi ha hb hnext H locs ls z hH hl hls)
    · exact fun H locs ls z hH hl hls => lv_tableIn X.1 X.2.1 dL_law_40 (by decide) (by decide) (off := 896) (by decide) (tgt := 936) (by decide) (lc_9 hL h ht hi ha hb hnext H locs ls z hH hl hls)
    · exact fun H locs ls z hH hl hls => lv_tableIn X.1 X.2.1 dL_law_40 (by decide) (by decide) (off := 976) (by decide) (tgt := 1016) (by decide) (lc_10 hL h ht hi ha hb hnext H locs ls z hH hl hls)
    · exact fun H locs ls z hH hl hls => lv_tableIn X.1 X.2.1 dL_law_40 (by decide) (by decide) (off := 1072) (by decide) (tgt := 1112) (by decide) (lc_11 hL h ht hi ha hb hnext H locs ls z hH hl hls)
    · exact fun H locs ls z hH hl hls => lv_tableIn X.1 X.2.1 dL_law_40 (by decide) (by decide) (off := 1128) (by decide) (tgt := 1168) (by decide) (lc_12 hL h ht hi ha hb hnext H locs ls z hH hl hls)
    · exact fun H locs ls z hH hl hls => lv_tableIn X.1 X.2.1 dL_law_40 (by decide) (by decide) (off := 1184) (by decide) (tgt := 1224) (by decide) (lc_13 hL h ht hi ha hb hnext H locs ls z hH hl hls)
    · exact fun H locs ls z hH hl hls => lv_tableIn X.1 X.2.1 dL_law_40 (by decide) (by decide) (off := 1240) (by decide) (tgt := 1280) (by decide) (lc_14 hL h ht hi ha hb hnext H locs ls z hH hl hls)
    · exact fun H locs ls z hH hl hls => lv_tableIn X.1 X.2.1 dL_law_40 (by decide) (by decide) (off := 1296) (by decide) (tgt := 1336) (by decide) (lc_15 hL h ht hi ha hb hnext H locs ls z hH hl hls)
    · exact fun H locs ls z hH hl hls => lv_tableIn X.1 X.2.1 dL_law_40 (by decide) (by decide) (off := 1388) (by decide) (tgt := 1428) (by decide) (lc_16 hL h ht hi ha hb hnext H locs ls z hH hl hls)
    · exact fun H locs ls z hH hl hls => lv_tableIn X.1 X.2.1 dL_law_40 (by decide) (by decide) (off := 1468) (by decide) (tgt := 1508) (by decide) (lc_17 hL h ht hi ha hb hnext H locs ls z hH hl hls)
    · exact fun H locs ls z hH hl hls => lv_tableIn X.1 X.2.1 dL_law_40 (by decide) (by decide) (off := 1560) (by decide) (tgt := 1600) (by decide) (lc_18 hL h ht hi ha hb hnext H locs ls z hH hl hls)
    · exact fun H locs ls z hH hl hls => lv_tableIn X.1 X.2.1 dL_law_40 (by decide) (by decide) (off := 1623) (by decide) (tgt := 1663) (by decide) (lc_19 hL h ht hi ha hb hnext H locs ls z hH hl hls)
    · exact fun H locs ls z hH hl hls => lv_tableIn X.1 X.2.1 dL_law_40 (by decide) (by decide) (off := 1636) (by decide) (tgt := 1676) (by decide) (lc_20 hL h ht hi ha hb hnext H locs ls z hH hl hls)
    · exact fun H locs ls z hH hl hls => lv_tableIn X.1 X.2.1 dL_law_40 (by decide) (by decide) (off := 1692) (by decide) (tgt := 1732) (by decide) (lc_21 hL h ht hi ha hb hnext H locs ls z hH hl hls)
    · exact fun H locs ls z hH hl hls => lv_tableIn X.1 X.2.1 dL_law_40 (by decide) (by decide) (off := 1748) (by decide) (tgt := 1788) (by decide) (lc_22 hL h ht hi ha hb hnext H locs ls z hH hl hls)
    · exact fun H locs ls z hH hl hls => lv_tableIn X.1 X.2.1 dL_law_40 (by decide) (by decide) (off := 1804) (by decide) (tgt := 1844) (by decide) (lc_23 hL h ht hi ha hb hnext H locs ls z hH hl hls)
    · exact fun H locs ls z hH hl hls => lv_tableIn X.1 X.2.1 dL_law_40 (by decide) (by decide) (off := 1872) (by decide) (tgt := 1912) (by decide) (lc_24 hL h ht hi ha hb hnext H locs ls z hH hl hls)
    · exact fun H locs ls z hH hl hls => lv_tableIn X.1 X.2.1 dL_law_40 (by decide) (by decide) (off := 1885) (by decide) (tgt := 1925) (by decide) (lc_25 hL h ht hi ha hb hnext H locs ls z hH hl hls)
    · exact fun H locs ls z hH hl hls => lv_tableIn X.1 X.2.1 dL_law_40 (by decide) (by decide) (off := 1960) (by decide) (tgt := 2000) (by decide) (lc_26 hL h ht hi ha hb hnext H locs ls z hH hl hls)
    · exact fun H locs ls z hH hl hls => lv_tableIn X.1 X.2.1 dL_law_40 (by decide) (by decide) (off := 2028) (by decide) (tgt := 2068) (by decide) (lc_27 hL h ht hi ha hb hnext H locs ls z hH hl hls)
    · exact fun H locs ls z hH hl hls => lv_tableIn X.1 X.2.1 dL_law_40 (by decide) (by decide) (off := 2096) (by decide) (tgt := 2136) (by decide) (lc_28 hL h ht hi ha hb hnext H locs ls z hH hl hls)
    · exact fun H locs ls z hH hl hls => lv_tableIn X.1 X.2.1 dL_law_40 (by decide) (by decide) (off := 2176) (by decide) (tgt := 2216) (by decide) (lc_29 hL h ht hi ha hb hnext H locs ls z hH hl hls)
    · exact fun H locs ls z hH hl hls => lv_tableIn X.1 X.2.1 dL_law_40 (by decide) (by decide) (off := 2256) (by decide) (tgt := 2296) (by decide) (lc_30 hL h ht hi ha hb hnext H locs ls z hH hl hls)
    · exact fun H locs ls z hH hl hls => lv_tableIn X.1 X.2.1 dL_law_40 (by decide) (by decide) (off := 2336) (by decide) (tgt := 2376) (by decide) (lc_31 hL h ht hi ha hb hnext H locs ls z hH hl hls)
    · exact fun H locs ls z hH hl hls => lv_tableIn X.1 X.2.1 dL_law_40 (by decide) (by decide) (off := 2411) (by decide) (tgt := 2451) (by decide) (lc_32 hL h ht hi ha hb hnext H locs ls z hH hl hls)
    · exact fun H locs ls z hH hl hls => lv_tableIn X.1 X.2.1 dL_law_40 (by decide) (by decide) (off := 2491) (by decide) (tgt := 2531) (by decide) (lc_33 hL h ht hi ha hb hnext H locs ls z hH hl hls)
    · exact fun H locs ls z hH hl hls => lv_tableIn X.1 X.2.1 dL_law_40 (by decide) (by decide) (off := 2571) (by decide) (tgt := 2611) (by decide) (lc_34 hL h ht hi ha hb hnext H locs ls z hH hl hls)
    · exact fun H locs ls z hH hl hls => lv_tableIn X.1 X.2.1 dL_law_40 (by decide) (by decide) (off := 2634) (by decide) (tgt := 2674) (by decide) (lc_35 hL h ht hi ha hb hnext H locs ls z hH hl hls)
    · exact fun H locs ls z hH hl hls => lv_tableIn X.1 X.2.1 dL_law_40 (by decide) (by decide) (off := 2690) (by decide) (tgt := 2730) (by decide) (lc_36 hL h ht hi ha hb hnext H locs ls z hH hl hls)
    · exact fun H locs ls z hH hl hls => lv_tableIn X.1 X.2.1 dL_law_40 (by decide) (by decide) (off := 2758) (by decide) (tgt := 2798) (by decide) (lc_37 hL h ht hi ha hb hnext H locs ls z hH hl hls)
    · exact fun H locs ls z hH hl hls => lv_tableIn X.1 X.2.1 dL_law_40 (by decide) (by decide) (off := 2826) (by decide) (tgt := 2866) (by decide) (lc_38 hL h ht hi ha hb hnext H locs ls z hH hl hls)
    · exact fun H locs ls z hH hl hls => lv_tableIn X.1 X.2.1 dL_law_40 (by decide) (by decide) (off := 2906) (by decide) (tgt := 2946) (by decide) (lc_39 hL h ht hi ha hb hnext H locs ls z hH hl hls)
    · exact fun H locs ls z hH hl hls => lv_tableIn X.1 X.2.1 dL_law_40 (by decide) (by decide) (off := 2986) (by decide) (tgt := 3026) (by decide) (lc_40 hL h ht hi ha hb hnext H locs ls z hH hl hls)
    · exact fun H locs ls z hH hl hls => lv_tableIn X.1 X.2.1 dL_law_40 (by decide) (by decide) (off := 3042) (by decide) (tgt := 3082) (by decide) (lc_41 hL h ht hi ha hb hnext H locs ls z hH hl hls)
    · exact fun H locs ls z hH hl hls => lv_tableIn X.1 X.2.1 dL_law_40 (by decide) (by decide) (off := 3110) (by decide) (tgt := 3150) (by decide) (lc_42 hL h ht hi ha hb hnext H locs ls z hH hl hls)
set_option maxRecDepth 100000 in
theorem law_loop {k : QC} {sb L sv : Nat} {xs : Nat → Int32} (hL : LX k sb L xs) (hexit : ∀ env mm a b, a ≤ 601024 → b ≤ 7293034 → GG k env [] mm 3236 a b) : ∀ (n t : Nat) (mm : QM), 512 ≤ n + t → t ≤ 512 → LINV sv (t : Int) mm → GG k (lenv sb sv (6 * t)) [] mm 23 (66 + 20 * t) (17837 + 900 * t) := by
  have X := hL.1
  have hN := hL.2.2.1
  have hL2 : L ≤ 3072 := hL.2.2.2.2.2.2.2.2
  intro n
  induction n with
  | zero =>
    intro t mm h1 h2 h
    refine g_iload 0 X dL_law_23 rfl ?_
    refine t_slen (p0 := 1) hL rfl dL_law_25 dL_law_26 ?_
    refine g_bipush (v := I 6) X dL_law_27 (by decide) ?_
    refine g_isub X dL_law_29 ?_
    rw [I_sub]
    refine t_cgtT (tgt := 3236) X dL_law_30 (by decide) (by rw [I_lt (by omega) (by omega) (by omega) (by omega)]; omega) ?_
    exact hexit _ _ _ _ (by omega) (by omega)
  | succ n ih =>
    intro t mm h1 h2 h
    refine g_iload 0 X dL_law_23 rfl ?_
    refine t_slen (p0 := 1) hL rfl dL_law_25 dL_law_26 ?_
    refine g_bipush (v := I 6) X dL_law_27 (by decide) ?_
    refine g_isub X dL_law_29 ?_
    rw [I_sub]
    by_cases c : 6 * t + 6 ≤ L
    · refine t_cgtF 3236 X dL_law_30 (by decide) (by rw [I_lt (by omega) (by omega) (by omega) (by omega)]; omega) ?_
      refine law_step hL h (by omega) c (by omega) (by omega) (fun m3 h3 => ?_)
      refine g_iinc (v := I ((6 * (t + 1) : Nat) : Int)) (env' := lenv sb sv (6 * (t + 1))) 0 X dL_law_3230 rfl ((I_add _ 6).trans (congrArg I (by omega))) (by rw [hN]; decide) rfl ?_
      refine g_goto (tgt := 23) X dL_law_3233 (by decide) ?_
      have q := ih (t + 1) m3 (by omega) (by omega) h3
      rw [show 66 + 20 * (t + 1) = 66 + 20 * t + 20 from by omega, show 17837 + 900 * (t + 1) = 17837 + 900 * t + 900 from by omega] at q
      exact q
    · refine t_cgtT (tgt := 3236) X dL_law_30 (by decide) (by rw [I_lt (by omega) (by omega) (by omega) (by omega)]; omega) ?_
      exact hexit _ _ _ _ (by omega) (by omega)
set_option maxRecDepth 100000 in
theorem nd7 : ∀ j, j < 46 → defaultValue (tyX7 j) = (if qk 8 j = 0 then .int 0 else if qk 8 j = 1 then .long 0 else .null) := by
  intro j hj
  rcases (by omega : j = 0 ∨ j = 1 ∨ j = 2 ∨ j = 3 ∨ j = 4 ∨ j = 5 ∨ j = 6 ∨ j = 7 ∨ j = 8 ∨ j = 9 ∨ j = 10 ∨ j = 11 ∨ j = 12 ∨ j = 13 ∨ j = 14 ∨ j = 15 ∨ j = 16 ∨ j = 17 ∨ j = 18 ∨ j = 19 ∨ j = 20 ∨ j = 21 ∨ j = 22 ∨ j = 23 ∨ j = 24 ∨ j = 25 ∨ j = 26 ∨ j = 27 ∨ j = 28 ∨ j = 29 ∨ j = 30 ∨ j = 31 ∨ j = 32 ∨ j = 33 ∨ j = 34 ∨ j = 35 ∨ j = 36 ∨ j = 37 ∨ j = 38 ∨ j = 39 ∨ j = 40 ∨ j = 41 ∨ j = 42 ∨ j = 43 ∨ j = 44 ∨ j = 45) with rfl | rfl | rfl | rfl | rfl | rfl | rfl | rfl | rfl | rfl | rfl | rfl | rfl | rfl | rfl | rfl | rfl | rfl | rfl | rfl | rfl | rfl | rfl | rfl | rfl | rfl | rfl | rfl | rfl | rfl | rfl | rfl | rfl | rfl | rfl | rfl | rfl | rfl | rfl | rfl | rfl | rfl | rfl | rfl | rfl | rfl <;> rfl
/-- a memory that holds nothing yet -/
def qm0 (n : Nat) : QM := (fun _ => (0, 0, 0), fun _ _ => 0, fun _ _ => 0, fun _ _ => none, fun _ _ => 0, fun _ _ => 0, fun _ _ => none, n)
set_option maxRecDepth 100000 in
set_option maxHeartbeats 4000000 in
theorem law_go {k : QC} {sb L : Nat} {xs : Nat → Int32} (hL : LX k sb L xs) (hHs : (kHs k).size = (ks k).heap.size) (hexit : ∀ env mm a b, a ≤ 601024 → b ≤ 7293034 → GG k env [] mm 3236 a b) : GG k [(0, .ref sb)] [] (qm0 (kHs k).size) 0 0 0 := by
  have X := hL.1
  have hR := hL.2.1
  have hN := hL.2.2.1
  have htr := hL.2.2.2.1
  have hT : TH k (fun _ _ => False) := TH_F
  refine g_new (c := 7) tyX6 X rfl inW6 tyX6_ok (qW_at 102 (by decide +kernel) rfl) (qW_at 103 (by decide +kernel) rfl) (qW_at 75 (by decide +kernel) rfl) (by intro j hj; have h : ∀ j, j < 9 → defaultValue (tyX6 j) = (if qk 7 j = 0 then .int 0 else if qk 7 j = 1 then .long 0 else .null) := (by intro j hj; rcases (by omega : j = 0 ∨ j = 1 ∨ j = 2 ∨ j = 3 ∨ j = 4 ∨ j = 5 ∨ j = 6 ∨ j = 7 ∨ j = 8) with rfl | rfl | rfl | rfl | rfl | rfl | rfl | rfl | rfl <;> rfl); exact h j hj) (by rw [hR]; exact Nat.le_of_ble_eq_true rfl) (by rw [hR]; exact Nat.le_of_ble_eq_true rfl) dL_law_0 ?_
  have hsv : qtop (qm0 (kHs k).size) = (kHs k).size := rfl
  rw [hsv]
  obtain ⟨sv, hsv'⟩ : ∃ sv, sv = (kHs k).size := ⟨_, rfl⟩
  rw [← hsv']
  have ht0 : qty (qnew (qm0 sv) 7) sv = (1, 7, 0) := va_up_same _ _ _
  have hq0 : qtop (qnew (qm0 sv) 7) = sv + 1 := rfl
  obtain ⟨A0, M0, e0, pA, pM⟩ := c_sinit hq0 ht0
  refine t_dup X dL_law_3 ?_
  refine g_callI (q := sv) (av := []) (x := F_X6_init sv) X hT htr (M_X6_init sv) lk_X6_init im_X6_init rfl (qW_at 104 (by decide +kernel) rfl) rfl (by rw [hR]; exact ⟨Nat.le_of_ble_eq_true rfl, Nat.le_of_ble_eq_true rfl⟩) (by exact Nat.le_of_ble_eq_true rfl) (by rw [hR]; exact ⟨Nat.le_of_ble_eq_true rfl, Nat.le_of_ble_eq_true rfl⟩) dL_law_4 ?_
  unfold qwp
  rw [e0]
  show GG k _ [.ref sv] M0 _ _ _
  have hM0 : qtop M0 = sv + 20 := pM.1
  refine t_as (env' := [(1, .ref sv), (0, .ref sb)]) X dL_law_7 rfl (by rw [hN]; decide) rfl ?_
  refine g_new (c := 8) tyX7 X rfl inW7 tyX7_ok (qW_at 1293 (by decide +kernel) rfl) (qW_at 1294 (by decide +kernel) rfl) (qW_at 78 (by decide +kernel) rfl) (fun j hj => nd7 j hj) (by rw [hR]; exact Nat.le_of_ble_eq_true rfl) (by rw [hR]; exact Nat.le_of_ble_eq_true rfl) dL_law_8 ?_
  rw [hM0]
  obtain ⟨M1, e1, hRM, hg1, hM1⟩ := c_rinit hM0.symm
  refine t_dup X dL_law_11 ?_
  refine g_callI (q := sv + 20) (av := []) (x := F_X7_init (sv + 20)) X hT htr (M_X7_init (sv + 20)) lk_X7_init im_X7_init rfl (qW_at 1295 (by decide +kernel) rfl) rfl (by rw [hR]; exact ⟨Nat.le_of_ble_eq_true rfl, Nat.le_of_ble_eq_true rfl⟩) (by exact Nat.le_of_ble_eq_true rfl) (by rw [hR]; exact ⟨Nat.le_of_ble_eq_true rfl, Nat.le_of_ble_eq_true rfl⟩) dL_law_12 ?_
  unfold qwp
  rw [e1]
  show GG k _ [.ref (sv + 20)] M1 _ _ _
  refine t_as (env' := [(2, .ref (sv + 20)), (1, .ref sv), (0, .ref sb)]) X dL_law_15 rfl (by rw [hN]; decide) rfl ?_
  refine g_iconst (v := I 1) X dL_law_16 rfl ?_
  refine g_newl 1 X ac_long (by decide) (by decide) (by rw [hR]; exact Nat.le_of_ble_eq_true rfl) (by rw [hR]; exact Nat.le_of_ble_eq_true rfl) dL_law_17 ?_
  rw [show (I 1).toNatClampNeg = 1 from by decide, hM1]
  have h62 : qty (qnewl M1 1) (sv + 62) = (3, 0, 1) := by
    show va_up (qty M1) (qtop M1) (3, 0, 1) (sv + 62) = _
    rw [hM1]; exact va_up_same _ _ _
  have g2 : GROW M1 (qnewl M1 1) := ⟨Nat.le_succ _, fun b hb => va_up_diff _ _ (by omega), fun _ _ _ => rfl, fun _ _ _ => rfl, fun _ _ _ => rfl, fun _ _ => rfl, fun b hb => va_up_diff _ _ (by omega), fun _ _ => rfl⟩
  have hC : CR sv (fun _ => 0, fun _ => 0, fun _ => 0, fun _ => 0, fun _ => 0) S00 (qnewl M1 1) := CR.start hq0 ht0 (va_up_same _ _ _) (va_up_same _ _ _) (va_up_same _ _ _) pA pM (hg1.trans g2) (by show sv + 63 ≤ qtop M1 + 1; omega)
  have hRM2 : RM (sv + 20) S00 (qnewl M1 1) := by
    refine ⟨(g2.ty _ (by omega)).trans hRM.ob, fun K hK => (g2.fr _ _ (by omega)).trans (hRM.rf K hK), fun K hK => ?_, fun K hK z hz => ?_, fun K hK z hz => ?_, fun K => (g2.fi _ _ (by omega)).trans (hRM.fi K)⟩
    · have := ra_pos K (kty_lt hK) hK
      exact (g2.ty _ (by omega)).trans (hRM.ty K hK)
    · have hK' : (kty K).1 ≠ 0 := by rw [hK]; decide
      have := ra_pos K (kty_lt hK') hK'
      rw [g2.ai _ (by omega)]; exact hRM.ai K hK z hz
    · have hK' : (kty K).1 ≠ 0 := by rw [hK]; decide
      have := ra_pos K (kty_lt hK') hK'
      rw [g2.al _ (by omega)]; exact hRM.al K hK z hz
  have hI : LINV sv ((0 : Nat) : Int) (qnewl M1 1) := ⟨_, S00, hC, SI.start, hRM2, h62⟩
  refine t_as (env' := [(3, .ref (sv + 62)), (2, .ref (sv + 20)), (1, .ref sv), (0, .ref sb)]) X dL_law_19 rfl (by rw [hN]; decide) rfl ?_
  refine g_iconst (v := I 0) X dL_law_20 rfl ?_
  refine g_istore (env' := [(4, .int (I 0)), (3, .ref (sv + 62)), (2, .ref (sv + 20)), (1, .ref sv), (0, .ref sb)]) X dL_law_21 (by rw [hN]; decide) rfl ?_
  exact GG_sub [0, 4, 3, 2, 1] rfl (GG_widen (by decide) (by decide) (law_loop hL hexit 512 0 _ (by decide) (by decide) hI))
set_option maxRecDepth 100000 in
set_option maxHeartbeats 4000000 in
theorem whole_start {p : Program} {e : Env} {s : State} {m : MethodId} {below : List Frame} {meth : Method} {c : Code} (l : Launch) (hflags : l.flags = flags0) {b L : Nat} {xs : Nat → Int32} (hL : L ≤ 3072) (C0 : lw_At p s m meth c b L xs) : W p l e room_1 s m #[Value.ref b] below meth c s.heap [] 0 0 (lw_Z below #[Value.ref b] s) (entryFrame m ([Value.ref b] : List Value).toArray 7) := by
  obtain ⟨hx, hb, hr, hml, hown, hts, hX, hbl, hlocks, hgv⟩ := C0
  obtain ⟨D, DA, hKN⟩ := kn_start hts hgv
  have htr : l.stackTraces = false := by
    unfold Launch.stackTraces
    rw [hflags]; rfl
  let k : QC := (p, l, e, room_1, s, m, #[Value.ref b], below, meth, c, lw_Z below #[Value.ref b] s, D, DA, s.heap, 7)
  have hXX : CX k cL_law RL := ⟨hx, hb, hml, hown, fun w hw => hts w (List.mem_filter.mp hw).1, hKN⟩
  have hLX : LX k b L xs := ⟨hXX, rfl, rfl, htr, fun q hq => rfl, hX, hbl, hbl, hL⟩
  have hexit : ∀ env mm a b', a ≤ 601024 → b' ≤ 7293034 → GG k env [] mm 3236 a b' := by
    intro env mm a b' ha hb'
    refine g_iconst (v := 1) hXX dL_law_3236 (by decide) ?_
    intro H locs ls z hH hl hls
    exact W.forget (locs := []) (L := locs) (fun q hq => hl q hq) (W.widen ha hb' (lw_ret hx hb hr hlocks dL_law_3237))
  have hl := lv_entry ([.ref b]) (n := 7) (Nat.le_of_ble_eq_true rfl)
  rw [lg_entry_eq]
  exact law_go hLX rfl hexit s.heap [] _ (Nat.le_refl _) ⟨Nat.le_refl _, rfl, fun _ _ => rfl, fun a ha => absurd rfl ha⟩ (fun z hz => by cases hz) hl
-- ===== YOUR PART ENDS =====
set_option maxHeartbeats 4000000 in
theorem lw_walk (l : Launch) (hflags : l.flags = flags0) (b : Addr) (xs : List Int32) : MetFree l x (headSpec (Jvm.Cond.code x code maxLocals ret :: tables_1) room_1) (lw_P b xs) (fun _ _ _ _ _ => True) lw_Q := by
  refine MetFree.of_bodyS (code := code) (maxLocals := maxLocals) (ret := ret) (by decide) ?_ ?_
  · intro args s m h hn
    obtain ⟨meth, c, h1, h2, h3, h4, h5, h6, -, -⟩ := Cond.code_spec hn (atoms_spec (ws := Jvm.Cond.code x code maxLocals ret :: tables_1) h _ List.mem_cons_self)
    exact ⟨meth, c, h1, h2, h3, h4, h5, h6⟩
  · intro p e s m args below meth c s₁ B hml0 hP _
    obtain ⟨rfl, hx, hbd, hgv⟩ := hP
    obtain ⟨scr, harrAt, hlist, hof, hsmall⟩ := hx
    obtain ⟨hcb, hkn, -, -⟩ := State.arrayAt?_spec harrAt
    have hown : s.vm.findClass R_law = some m.cls := findClass_of_methodNamed B.named
    have hts0 : ∀ c ∈ (Jvm.Cond.code x code maxLocals ret :: tables_1), c.before #[Value.ref b] s = true := atoms_spec (ws := Jvm.Cond.code x code maxLocals ret :: tables_1) B.pre
    have hts : ∀ w ∈ lw_tbl, w.before #[Value.ref b] s = true := k2_hts_sels lw_privs (fun w hw => hts0 w (List.mem_cons_of_mem _ hw)) lw_privs_ok
    have hml : c.maxLocals = 7 := B.maxLocals_eq (hts0 _ List.mem_cons_self)
    have X₀ : Stand p l e room_1 s m #[Value.ref b] below meth c s₁ [] 0 0 := Stand.of_body B
    have hh0 : s₁.heap = s.heap := by rw [B.state]; rfl
    have hsz : scr.slots.size = xs.length := by rw [← Array.length_toList, hlist, List.length_map]
    have hval : ∀ j : Nat, j < xs.length → scr.slots[j]? = some (.int (xs.getD j 0)) := fun j hj => by
      rw [← Array.getElem?_toList, hlist]
      simp [hj]
    have hbl : b < s.heap.size := (Array.getElem?_eq_some_iff.mp hcb).1
    have hX : va_X b xs.length (fun j => xs.getD j 0) s s.heap := ⟨scr, hcb, hof, hkn, hsz, hval⟩
    have K : W p l e room_1 s m #[Value.ref b] below meth c s₁.heap [] 0 0 (lw_Z below #[Value.ref b] s) (entryFrame m ([Value.ref b] : List Value).toArray 7) := by
      rw [hh0]
      exact whole_start l hflags hbd ⟨B.exec, B.bytes, B.returns, hml, hown, hts, hX, hbl, B.notSynchronized, hgv⟩
    obtain ⟨t, a1, o, b1, b2, b3⟩ := K s₁ rfl X₀
    exact ⟨t, o, a1, b1, b2, b3⟩
theorem lw_pre_spec {args : Array Value} {s : State} (h : (Jvm.Cond.and given_1 narrow_1).before args s = true) (hr : rest_1_c.before args s = true) : ∃ (b : Addr) (xs : List Int32), lw_P b xs args s := by
  have hs := flat_of_before _ h
  have hq := flat_of_before _ hr
  have hc : (Cond.count 1).before args s = true := hs _ (by decide +kernel)
  have harr : (Cond.arrayOf (.arg 0) .int).before args s = true := hs _ (by decide +kernel)
  have hle : (Cond.le (.length (.arg 0)) (.int 3072)).before args s = true := hs _ (by decide +kernel)
  have hlen : (Cond.isInt (.length (.arg 0))).before args s = true := hq _ (by decide +kernel)
  have hall : (Cond.all (.arg 0) (.isInt (.elem (.arg 0) (.index 0)))).before args s = true := hq _ (by decide +kernel)
  obtain ⟨b, xs, hb, hx⟩ := State.ints_of_pre rfl harr hlen hall
  have hsm : xs.length < 2 ^ 31 := hx.choose_spec.2.2.2
  have hev : (Term.length (.arg 0)).eval args s none [] s = some (.int xs.length.toInt32) := hx.length_eval hb
  have hv := Cond.le_ints hev (show (Term.int 3072).eval args s none [] s = some (.int 3072) from rfl)
  have hd : xs.length.toInt32 ≤ 3072 := by
    simpa [Cond.before, Cond.holds, hv] using hle
  have hN : xs.length ≤ 3072 := (Int32.ofNat_le_ofNat hsm (by decide)).mp (show Int32.ofNat xs.length ≤ Int32.ofNat 3072 from hd)
  exact ⟨b, xs, Cond.one_arg hc (show args[0]? = some (.ref b) from hb), hx, hN, h⟩
theorem lw_comes (l : Launch) (hflags : l.flags = flags0) : Comes l x (Jvm.Cond.code x code maxLocals ret :: tables_1) room_1 (fun tb e args s => Calls_1 tb e args s ∧ rest_1 tb e args s ∧ Pre_1 tb e args s)
    (fun _ _ args s o t => lw_Q args s o t) := by
  intro p e ha hc hk s m args below hf hfit hheap happ hpre
  obtain ⟨b, xs, hP⟩ := lw_pre_spec hpre.2.2 hpre.2.1
  obtain ⟨k, o, h1, h2, h3, hQ⟩ := lw_walk l hflags b xs p e ha hc hk s m args below hf ((Spec.applies_iff_loose hf).mp happ).1 hP trivial
  exact ⟨k, o, h1, h2, h3, hQ⟩
theorem lw_frame {s t : State} {o : Outcome} {args : Array Value} (h : Framed s o t [] 601024 7293034) :
    Framed s o t (fieldLocs frame_1_writes args s ++ arrayLocs frame_1_arrays args s ++ staticLocs frame_1_statics s) 601024 7293034 := h
theorem lw_limb (L : Cond) (hL : ∀ (args : Array Value) (s t : State), L.after args s (.returned (some (.int 1))) t = true) :
    ArmFor flags0 classFile x code maxLocals ret World_1 tables_1 room_1 Calls_1 rest_1 Pre_1
      (fun tb e a s o t => postC L tb e a s o t ∧ Framed s o t (fieldLocs frame_1_writes a s ++ arrayLocs frame_1_arrays a s ++ staticLocs frame_1_statics s) 601024 7293034) := by
  intro l hflags _ _ p e ha hc hk s m args below hf hfit hheap happ hpre
  obtain ⟨k, o, h1, h2, h3, rfl, hF⟩ := lw_comes l hflags p e ha hc hk s m args below hf hfit hheap happ hpre
  exact ⟨k, _, h1, h2, h3, hL args s _, lw_frame hF⟩
theorem i_vc : Claimed_1_1 ∧ Claimed_1_2 := ⟨lw_limb limb_1_1 (fun args s t => by simp [limb_1_1, Cond.after, Cond.holds, Cond.value]), lw_limb limb_1_2 (fun args s t => Cond.after_iff.mpr (by
  first | (rw [show limb_1_2 = Cond.eq .result (.int 1) from rfl, Cond.eq_ints (x := 1) (y := 1) rfl rfl]; simp; done) | (simp [limb_1_2, Cond.value, Term.eval]; done)))⟩
