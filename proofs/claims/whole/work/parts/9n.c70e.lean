/-! the law's cases 24 to 29 -/
theorem dL_law_1912 : decode cL_law 1912 = .ok (.aload_n 1, 1) := by decide +kernel
theorem dL_law_1913 : decode cL_law 1913 = .ok (.invokevirtual 236, 3) := by decide +kernel
theorem dL_law_1916 : decode cL_law 1916 = .ok (.aload_n 2, 1) := by decide +kernel
theorem dL_law_1917 : decode cL_law 1917 = .ok (.invokevirtual 239, 3) := by decide +kernel
theorem dL_law_1920 : decode cL_law 1920 = .ok (.if_icmp .eq 1310, 3) := by decide +kernel
set_option maxRecDepth 100000 in
set_option maxHeartbeats 3200000 in
theorem lc_24 {k : QC} {mm : QM} {a b sb L sv i : Nat} {xs : Nat → Int32} {t : Int} (hL : LX k sb L xs) (h : LINV sv t mm) (ht : t + 2 ≤ 600) (hi : i + 6 ≤ L) (ha : a + 20 ≤ 601024) (hb : b + 900 ≤ 7293034) (hnext : ∀ m3, LINV sv (t + 1) m3 → GG k (lenv sb sv i) [] m3 3230 (a + 20) (b + 900)) : GG k (lenv sb sv i) [] mm 1912 a b := by
  have X := hL.1
  have hR := hL.2.1
  have hN := hL.2.2.1
  have htr := hL.2.2.2.1
  have hT : TH k (fun _ _ => False) := TH_F
  obtain ⟨G, S, hC, hs, hRM, h62⟩ := h
  obtain ⟨G', S', m1, S0, hx, hk, hC1, hs1, h45, hR0, hy⟩ := j_meetings hC hs ht hRM
  refine t_al 2 X dL_law_1912 rfl rfl ?_
  refine g_callV (st := []) (q := sv) (av := []) (x := F_X6_meetings sv) (T := fun _ _ => False) X hT htr rfl hC.cf.ty (M_X6_meetings sv) lk_X6_meetings im_X6_meetings se_X6_meetings (qW_at 188 (by decide +kernel) rfl) rfl (by rw [hR]; exact ⟨Nat.le_of_ble_eq_true rfl, Nat.le_of_ble_eq_true rfl⟩) (by exact Nat.le_of_ble_eq_true rfl) (by rw [hR]; exact ⟨by show _ ≤ 601024; omega, by show _ ≤ 7293034; omega⟩) dL_law_1913 ?_
  unfold qwp
  rw [hx]
  obtain ⟨m3, e3, hR3, hF⟩ := hy m1 hR0
  show GG k _ (.int (I (mf S 3)) :: []) m1 _ _ _
  refine t_al 3 X dL_law_1916 rfl rfl ?_
  refine g_callV (st := [.int (I (mf S 3))]) (q := sv + 20) (av := []) (x := F_X7_meetings (sv + 20)) (T := fun _ _ => False) X hT htr rfl hR0.ob (M_X7_meetings (sv + 20)) lk_X7_meetings im_X7_meetings se_X7_meetings (qW_at 1718 (by decide +kernel) rfl) rfl (by rw [hR]; exact ⟨Nat.le_of_ble_eq_true rfl, Nat.le_of_ble_eq_true rfl⟩) (by exact Nat.le_of_ble_eq_true rfl) (by rw [hR]; exact ⟨by show _ ≤ 601024; omega, by show _ ≤ 7293034; omega⟩) dL_law_1917 ?_
  unfold qwp
  rw [e3]
  show GG k _ (.int (I (mf S 3)) :: .int (I (mf S 3)) :: []) m3 _ _ _
  refine t_ceqT (tgt := 3230) X dL_law_1920 (by decide) rfl ?_
  exact GG_widen (by omega) (by omega) (hnext m3 ⟨G', S', hC1.fm hF, hs1, hR3, (hF.ty _).trans (hk.ty62 h62)⟩)
theorem dL_law_1925 : decode cL_law 1925 = .ok (.aload_n 1, 1) := by decide +kernel
theorem dL_law_1926 : decode cL_law 1926 = .ok (.aload_n 0, 1) := by decide +kernel
theorem dL_law_1927 : decode cL_law 1927 = .ok (.iload 4, 2) := by decide +kernel
theorem dL_law_1929 : decode cL_law 1929 = .ok (.iconst 1, 1) := by decide +kernel
theorem dL_law_1930 : decode cL_law 1930 = .ok (.iadd, 1) := by decide +kernel
theorem dL_law_1931 : decode cL_law 1931 = .ok (.iaload, 1) := by decide +kernel
theorem dL_law_1932 : decode cL_law 1932 = .ok (.aload_n 0, 1) := by decide +kernel
theorem dL_law_1933 : decode cL_law 1933 = .ok (.iload 4, 2) := by decide +kernel
theorem dL_law_1935 : decode cL_law 1935 = .ok (.iconst 2, 1) := by decide +kernel
theorem dL_law_1936 : decode cL_law 1936 = .ok (.iadd, 1) := by decide +kernel
theorem dL_law_1937 : decode cL_law 1937 = .ok (.iaload, 1) := by decide +kernel
theorem dL_law_1938 : decode cL_law 1938 = .ok (.aload_n 3, 1) := by decide +kernel
theorem dL_law_1939 : decode cL_law 1939 = .ok (.invokestatic 240, 3) := by decide +kernel
theorem dL_law_1942 : decode cL_law 1942 = .ok (.istore 5, 2) := by decide +kernel
theorem dL_law_1944 : decode cL_law 1944 = .ok (.aload_n 2, 1) := by decide +kernel
theorem dL_law_1945 : decode cL_law 1945 = .ok (.aload_n 0, 1) := by decide +kernel
theorem dL_law_1946 : decode cL_law 1946 = .ok (.iload 4, 2) := by decide +kernel
theorem dL_law_1948 : decode cL_law 1948 = .ok (.iconst 1, 1) := by decide +kernel
theorem dL_law_1949 : decode cL_law 1949 = .ok (.iadd, 1) := by decide +kernel
theorem dL_law_1950 : decode cL_law 1950 = .ok (.iaload, 1) := by decide +kernel
theorem dL_law_1951 : decode cL_law 1951 = .ok (.aload_n 0, 1) := by decide +kernel
theorem dL_law_1952 : decode cL_law 1952 = .ok (.iload 4, 2) := by decide +kernel
theorem dL_law_1954 : decode cL_law 1954 = .ok (.iconst 2, 1) := by decide +kernel
theorem dL_law_1955 : decode cL_law 1955 = .ok (.iadd, 1) := by decide +kernel
theorem dL_law_1956 : decode cL_law 1956 = .ok (.iaload, 1) := by decide +kernel
theorem dL_law_1957 : decode cL_law 1957 = .ok (.invokevirtual 242, 3) := by decide +kernel
theorem dL_law_1960 : decode cL_law 1960 = .ok (.istore 6, 2) := by decide +kernel
theorem dL_law_1962 : decode cL_law 1962 = .ok (.aload_n 2, 1) := by decide +kernel
theorem dL_law_1963 : decode cL_law 1963 = .ok (.invokevirtual 157, 3) := by decide +kernel
theorem dL_law_1966 : decode cL_law 1966 = .ok (.iload 5, 2) := by decide +kernel
theorem dL_law_1968 : decode cL_law 1968 = .ok (.if_icmp .eq 5, 3) := by decide +kernel
theorem dL_law_1973 : decode cL_law 1973 = .ok (.iload 5, 2) := by decide +kernel
theorem dL_law_1975 : decode cL_law 1975 = .ok (.ifCond .ne 22, 3) := by decide +kernel
theorem dL_law_1978 : decode cL_law 1978 = .ok (.aload_n 3, 1) := by decide +kernel
theorem dL_law_1979 : decode cL_law 1979 = .ok (.iconst 0, 1) := by decide +kernel
theorem dL_law_1980 : decode cL_law 1980 = .ok (.laload, 1) := by decide +kernel
theorem dL_law_1981 : decode cL_law 1981 = .ok (.iload 6, 2) := by decide +kernel
theorem dL_law_1983 : decode cL_law 1983 = .ok (.ifCond .eq 7, 3) := by decide +kernel
theorem dL_law_1986 : decode cL_law 1986 = .ok (.lconst 1, 1) := by decide +kernel
theorem dL_law_1987 : decode cL_law 1987 = .ok (.goto 4, 3) := by decide +kernel
theorem dL_law_1990 : decode cL_law 1990 = .ok (.lconst 0, 1) := by decide +kernel
theorem dL_law_1991 : decode cL_law 1991 = .ok (.lcmp, 1) := by decide +kernel
theorem dL_law_1992 : decode cL_law 1992 = .ok (.ifCond .eq 5, 3) := by decide +kernel
theorem dL_law_1997 : decode cL_law 1997 = .ok (.goto 1233, 3) := by decide +kernel
set_option maxRecDepth 100000 in
set_option maxHeartbeats 3200000 in
theorem lc_25 {k : QC} {mm : QM} {a b sb L sv i : Nat} {xs : Nat → Int32} {t : Int} (hL : LX k sb L xs) (h : LINV sv t mm) (ht : t + 2 ≤ 600) (hi : i + 6 ≤ L) (ha : a + 20 ≤ 601024) (hb : b + 900 ≤ 7293034) (hnext : ∀ m3, LINV sv (t + 1) m3 → GG k (lenv sb sv i) [] m3 3230 (a + 20) (b + 900)) : GG k (lenv sb sv i) [] mm 1925 a b := by
  have X := hL.1
  have hR := hL.2.1
  have hN := hL.2.2.1
  have htr := hL.2.2.2.1
  have hT : TH k (fun _ _ => False) := TH_F
  refine t_al 2 X dL_law_1925 rfl rfl ?_
  refine t_arg (p0 := 1) (p4 := 0) hL (by decide) (by decide) hi rfl rfl dL_law_1926 dL_law_1927 dL_law_1929 dL_law_1930 dL_law_1931 ?_
  refine t_arg (p0 := 1) (p4 := 0) hL (by decide) (by decide) hi rfl rfl dL_law_1932 dL_law_1933 dL_law_1935 dL_law_1936 dL_law_1937 ?_
  refine t_al 4 X dL_law_1938 rfl rfl ?_
  refine h_callS (rok (AWL sv t (F_X7_isThere (sv + 20) (xs (i + 1)) (xs (i + 2))) (fun v => v = 0 ∨ v = 1))) (st := []) X hT htr (E_L_isThere sv (xs (i + 1)) (xs (i + 2))) lkh_isThere stl_isThere (qW_at 1076 (by decide +kernel) rfl) rfl (by rw [hR]; exact ⟨Nat.le_of_ble_eq_true rfl, Nat.le_of_ble_eq_true rfl⟩) (by exact Nat.le_of_ble_eq_true rfl) (by rw [hR]; exact ⟨by show _ ≤ 601024; omega, by show _ ≤ 7293034; omega⟩) dL_law_1939 (by rfl) (W_isThere h ht (xs (i + 1)) (xs (i + 2))) (fun _ _ q => rok_x q) (fun v m2 q => ?_)
  obtain ⟨_, hv0, kk, w, G', S', S0, rfl, hk, hC, hs, h45, hR0, h62, hout, hZ, hy⟩ := q
  cases hv0
  refine g_istore (env' := [(5, .int (I kk)), (4, .int (I (i : Int))), (0, .ref sb), (1, .ref sv), (2, .ref (sv + 20)), (3, .ref (sv + 62))]) X dL_law_1942 (by rw [hN]; decide) rfl ?_
  refine t_al 4 X dL_law_1944 rfl rfl ?_
  refine t_arg (p0 := 2) (p4 := 1) hL (by decide) (by decide) hi rfl rfl dL_law_1945 dL_law_1946 dL_law_1948 dL_law_1949 dL_law_1950 ?_
  refine t_arg (p0 := 2) (p4 := 1) hL (by decide) (by decide) hi rfl rfl dL_law_1951 dL_law_1952 dL_law_1954 dL_law_1955 dL_law_1956 ?_
  obtain ⟨m3, e3, hR3, hF⟩ := hy m2 hR0
  refine g_callV (st := []) (q := sv + 20) (av := [.int (xs (i + 1)), .int (xs (i + 2))]) (x := F_X7_isThere (sv + 20) (xs (i + 1)) (xs (i + 2))) (T := fun _ _ => False) X hT htr rfl hR0.ob (M_X7_isThere (sv + 20) (xs (i + 1)) (xs (i + 2))) lk_X7_isThere im_X7_isThere se_X7_isThere (qW_at 1722 (by decide +kernel) rfl) rfl (by rw [hR]; exact ⟨Nat.le_of_ble_eq_true rfl, Nat.le_of_ble_eq_true rfl⟩) (by exact Nat.le_of_ble_eq_true rfl) (by rw [hR]; exact ⟨by show _ ≤ 601024; omega, by show _ ≤ 7293034; omega⟩) dL_law_1957 ?_
  unfold qwp
  rw [e3]
  show GG k _ (.int w :: []) m3 _ _ _
  refine g_istore (env' := [(6, .int w), (5, .int (I kk)), (4, .int (I (i : Int))), (0, .ref sb), (1, .ref sv), (2, .ref (sv + 20)), (3, .ref (sv + 62))]) X dL_law_1960 (by rw [hN]; decide) rfl ?_
  refine t_al 5 X dL_law_1962 rfl rfl ?_
  refine g_callV (st := []) (q := sv + 20) (av := []) (x := F_X7_thrown (sv + 20)) (T := fun _ _ => False) X hT htr rfl hR3.ob (M_X7_thrown (sv + 20)) lk_X7_thrown im_X7_thrown se_X7_thrown (qW_at 1440 (by decide +kernel) rfl) rfl (by rw [hR]; exact ⟨Nat.le_of_ble_eq_true rfl, Nat.le_of_ble_eq_true rfl⟩) (by exact Nat.le_of_ble_eq_true rfl) (by rw [hR]; exact ⟨by show _ ≤ 601024; omega, by show _ ≤ 7293034; omega⟩) dL_law_1963 ?_
  unfold qwp
  rw [th_val hR3, h45]
  show GG k _ (.int (I kk) :: []) m3 _ _ _
  refine g_iload 1 X dL_law_1966 rfl ?_
  refine t_ceqT (tgt := 1973) X dL_law_1968 (by decide) rfl ?_
  refine g_iload 1 X dL_law_1973 rfl ?_
  have hI : LINV sv (t + 1) m3 := ⟨G', S', hC.fm hF, hs, hR3, (hF.ty _).trans h62⟩
  by_cases hkk : kk = 0
  case neg =>
    refine t_neT (tgt := 1997) X dL_law_1975 (by decide) (fun q => hkk ((I_inj (a := kk) (b := 0) (by omega) (by omega) (by omega) (by omega)).mp q)) ?_
    refine g_goto (tgt := 3230) X dL_law_1997 (by decide) ?_
    exact GG_sub [2, 3, 4, 5, 6] rfl (GG_widen (by omega) (by omega) (hnext m3 hI))
  subst hkk
  refine t_neF 1997 X dL_law_1975 (by decide) (by decide) ?_
  refine t_al 6 X dL_law_1978 rfl rfl ?_
  refine g_iconst (v := I 0) X dL_law_1979 rfl ?_
  refine g_lald (q := sv + 62) (n := 1) X ((hF.ty _).trans h62) (by intro q; rcases q with q | q <;> exact absurd q (by decide)) dL_law_1980 ?_
  rw [show (I 0).toNatClampNeg = 0 from by decide, hF.al _ (Or.inr (by omega)), hout rfl]
  refine g_iload 0 X dL_law_1981 rfl ?_
  rcases hZ with rfl | rfl
  · refine t_eqT (tgt := 1990) X dL_law_1983 (by decide) rfl ?_
    refine g_lconst (v := (0 : Int32).toInt64) X dL_law_1990 (by decide) ?_
    refine g_lcmp X dL_law_1991 ?_
    refine t_eqT (tgt := 1997) X dL_law_1992 (by decide) (q_cmp0.mpr rfl) ?_
    refine g_goto (tgt := 3230) X dL_law_1997 (by decide) ?_
    exact GG_sub [2, 3, 4, 5, 6] rfl (GG_widen (by omega) (by omega) (hnext m3 hI))
  · refine t_eqF 1990 X dL_law_1983 (by decide) (by decide) ?_
    refine g_lconst (v := (1 : Int32).toInt64) X dL_law_1986 (by decide) ?_
    refine g_goto (tgt := 1991) X dL_law_1987 (by decide) ?_
    refine g_lcmp X dL_law_1991 ?_
    refine t_eqT (tgt := 1997) X dL_law_1992 (by decide) (q_cmp0.mpr rfl) ?_
    refine g_goto (tgt := 3230) X dL_law_1997 (by decide) ?_
    exact GG_sub [2, 3, 4, 5, 6] rfl (GG_widen (by omega) (by omega) (hnext m3 hI))
theorem dL_law_2000 : decode cL_law 2000 = .ok (.aload_n 1, 1) := by decide +kernel
theorem dL_law_2001 : decode cL_law 2001 = .ok (.aload_n 0, 1) := by decide +kernel
theorem dL_law_2002 : decode cL_law 2002 = .ok (.iload 4, 2) := by decide +kernel
theorem dL_law_2004 : decode cL_law 2004 = .ok (.iconst 1, 1) := by decide +kernel
theorem dL_law_2005 : decode cL_law 2005 = .ok (.iadd, 1) := by decide +kernel
theorem dL_law_2006 : decode cL_law 2006 = .ok (.iaload, 1) := by decide +kernel
theorem dL_law_2007 : decode cL_law 2007 = .ok (.aload_n 0, 1) := by decide +kernel
theorem dL_law_2008 : decode cL_law 2008 = .ok (.iload 4, 2) := by decide +kernel
theorem dL_law_2010 : decode cL_law 2010 = .ok (.iconst 2, 1) := by decide +kernel
theorem dL_law_2011 : decode cL_law 2011 = .ok (.iadd, 1) := by decide +kernel
theorem dL_law_2012 : decode cL_law 2012 = .ok (.iaload, 1) := by decide +kernel
theorem dL_law_2013 : decode cL_law 2013 = .ok (.aload_n 3, 1) := by decide +kernel
theorem dL_law_2014 : decode cL_law 2014 = .ok (.invokestatic 243, 3) := by decide +kernel
theorem dL_law_2017 : decode cL_law 2017 = .ok (.istore 5, 2) := by decide +kernel
theorem dL_law_2019 : decode cL_law 2019 = .ok (.aload_n 2, 1) := by decide +kernel
theorem dL_law_2020 : decode cL_law 2020 = .ok (.aload_n 0, 1) := by decide +kernel
theorem dL_law_2021 : decode cL_law 2021 = .ok (.iload 4, 2) := by decide +kernel
theorem dL_law_2023 : decode cL_law 2023 = .ok (.iconst 1, 1) := by decide +kernel
theorem dL_law_2024 : decode cL_law 2024 = .ok (.iadd, 1) := by decide +kernel
theorem dL_law_2025 : decode cL_law 2025 = .ok (.iaload, 1) := by decide +kernel
theorem dL_law_2026 : decode cL_law 2026 = .ok (.aload_n 0, 1) := by decide +kernel
theorem dL_law_2027 : decode cL_law 2027 = .ok (.iload 4, 2) := by decide +kernel
theorem dL_law_2029 : decode cL_law 2029 = .ok (.iconst 2, 1) := by decide +kernel
theorem dL_law_2030 : decode cL_law 2030 = .ok (.iadd, 1) := by decide +kernel
theorem dL_law_2031 : decode cL_law 2031 = .ok (.iaload, 1) := by decide +kernel
theorem dL_law_2032 : decode cL_law 2032 = .ok (.invokevirtual 245, 3) := by decide +kernel
theorem dL_law_2035 : decode cL_law 2035 = .ok (.istore 6, 2) := by decide +kernel
theorem dL_law_2037 : decode cL_law 2037 = .ok (.aload_n 2, 1) := by decide +kernel
theorem dL_law_2038 : decode cL_law 2038 = .ok (.invokevirtual 157, 3) := by decide +kernel
theorem dL_law_2041 : decode cL_law 2041 = .ok (.iload 5, 2) := by decide +kernel
theorem dL_law_2043 : decode cL_law 2043 = .ok (.if_icmp .eq 5, 3) := by decide +kernel
theorem dL_law_2048 : decode cL_law 2048 = .ok (.iload 5, 2) := by decide +kernel
theorem dL_law_2050 : decode cL_law 2050 = .ok (.ifCond .ne 15, 3) := by decide +kernel
theorem dL_law_2053 : decode cL_law 2053 = .ok (.aload_n 3, 1) := by decide +kernel
theorem dL_law_2054 : decode cL_law 2054 = .ok (.iconst 0, 1) := by decide +kernel
theorem dL_law_2055 : decode cL_law 2055 = .ok (.laload, 1) := by decide +kernel
theorem dL_law_2056 : decode cL_law 2056 = .ok (.iload 6, 2) := by decide +kernel
theorem dL_law_2058 : decode cL_law 2058 = .ok (.i2l, 1) := by decide +kernel
theorem dL_law_2059 : decode cL_law 2059 = .ok (.lcmp, 1) := by decide +kernel
theorem dL_law_2060 : decode cL_law 2060 = .ok (.ifCond .eq 5, 3) := by decide +kernel
theorem dL_law_2065 : decode cL_law 2065 = .ok (.goto 1165, 3) := by decide +kernel
set_option maxRecDepth 100000 in
set_option maxHeartbeats 3200000 in
theorem lc_26 {k : QC} {mm : QM} {a b sb L sv i : Nat} {xs : Nat → Int32} {t : Int} (hL : LX k sb L xs) (h : LINV sv t mm) (ht : t + 2 ≤ 600) (hi : i + 6 ≤ L) (ha : a + 20 ≤ 601024) (hb : b + 900 ≤ 7293034) (hnext : ∀ m3, LINV sv (t + 1) m3 → GG k (lenv sb sv i) [] m3 3230 (a + 20) (b + 900)) : GG k (lenv sb sv i) [] mm 2000 a b := by
  have X := hL.1
  have hR := hL.2.1
  have hN := hL.2.2.1
  have htr := hL.2.2.2.1
  have hT : TH k (fun _ _ => False) := TH_F
  refine t_al 2 X dL_law_2000 rfl rfl ?_
  refine t_arg (p0 := 1) (p4 := 0) hL (by decide) (by decide) hi rfl rfl dL_law_2001 dL_law_2002 dL_law_2004 dL_law_2005 dL_law_2006 ?_
  refine t_arg (p0 := 1) (p4 := 0) hL (by decide) (by decide) hi rfl rfl dL_law_2007 dL_law_2008 dL_law_2010 dL_law_2011 dL_law_2012 ?_
  refine t_al 4 X dL_law_2013 rfl rfl ?_
  refine h_callS (rok (AWL sv t (F_X7_sequence (sv + 20) (xs (i + 1)) (xs (i + 2))) (fun _ => True))) (st := []) X hT htr (E_L_sequence sv (xs (i + 1)) (xs (i + 2))) lkh_sequence stl_sequence (qW_at 1083 (by decide +kernel) rfl) rfl (by rw [hR]; exact ⟨Nat.le_of_ble_eq_true rfl, Nat.le_of_ble_eq_true rfl⟩) (by exact Nat.le_of_ble_eq_true rfl) (by rw [hR]; exact ⟨by show _ ≤ 601024; omega, by show _ ≤ 7293034; omega⟩) dL_law_2014 (by rfl) (W_sequence h ht (xs (i + 1)) (xs (i + 2))) (fun _ _ q => rok_x q) (fun v m2 q => ?_)
  obtain ⟨_, hv0, kk, w, G', S', S0, rfl, hk, hC, hs, h45, hR0, h62, hout, hZ, hy⟩ := q
  cases hv0
  refine g_istore (env' := [(5, .int (I kk)), (4, .int (I (i : Int))), (0, .ref sb), (1, .ref sv), (2, .ref (sv + 20)), (3, .ref (sv + 62))]) X dL_law_2017 (by rw [hN]; decide) rfl ?_
  refine t_al 4 X dL_law_2019 rfl rfl ?_
  refine t_arg (p0 := 2) (p4 := 1) hL (by decide) (by decide) hi rfl rfl dL_law_2020 dL_law_2021 dL_law_2023 dL_law_2024 dL_law_2025 ?_
  refine t_arg (p0 := 2) (p4 := 1) hL (by decide) (by decide) hi rfl rfl dL_law_2026 dL_law_2027 dL_law_2029 dL_law_2030 dL_law_2031 ?_
  obtain ⟨m3, e3, hR3, hF⟩ := hy m2 hR0
  refine g_callV (st := []) (q := sv + 20) (av := [.int (xs (i + 1)), .int (xs (i + 2))]) (x := F_X7_sequence (sv + 20) (xs (i + 1)) (xs (i + 2))) (T := fun _ _ => False) X hT htr rfl hR0.ob (M_X7_sequence (sv + 20) (xs (i + 1)) (xs (i + 2))) lk_X7_sequence im_X7_sequence se_X7_sequence (qW_at 1730 (by decide +kernel) rfl) rfl (by rw [hR]; exact ⟨Nat.le_of_ble_eq_true rfl, Nat.le_of_ble_eq_true rfl⟩) (by exact Nat.le_of_ble_eq_true rfl) (by rw [hR]; exact ⟨by show _ ≤ 601024; omega, by show _ ≤ 7293034; omega⟩) dL_law_2032 ?_
  unfold qwp
  rw [e3]
  show GG k _ (.int w :: []) m3 _ _ _
  refine g_istore (env' := [(6, .int w), (5, .int (I kk)), (4, .int (I (i : Int))), (0, .ref sb), (1, .ref sv), (2, .ref (sv + 20)), (3, .ref (sv + 62))]) X dL_law_2035 (by rw [hN]; decide) rfl ?_
  refine t_al 5 X dL_law_2037 rfl rfl ?_
  refine g_callV (st := []) (q := sv + 20) (av := []) (x := F_X7_thrown (sv + 20)) (T := fun _ _ => False) X hT htr rfl hR3.ob (M_X7_thrown (sv + 20)) lk_X7_thrown im_X7_thrown se_X7_thrown (qW_at 1440 (by decide +kernel) rfl) rfl (by rw [hR]; exact ⟨Nat.le_of_ble_eq_true rfl, Nat.le_of_ble_eq_true rfl⟩) (by exact Nat.le_of_ble_eq_true rfl) (by rw [hR]; exact ⟨by show _ ≤ 601024; omega, by show _ ≤ 7293034; omega⟩) dL_law_2038 ?_
  unfold qwp
  rw [th_val hR3, h45]
  show GG k _ (.int (I kk) :: []) m3 _ _ _
  refine g_iload 1 X dL_law_2041 rfl ?_
  refine t_ceqT (tgt := 2048) X dL_law_2043 (by decide) rfl ?_
  refine g_iload 1 X dL_law_2048 rfl ?_
  have hI : LINV sv (t + 1) m3 := ⟨G', S', hC.fm hF, hs, hR3, (hF.ty _).trans h62⟩
  by_cases hkk : kk = 0
  case neg =>
    refine t_neT (tgt := 2065) X dL_law_2050 (by decide) (fun q => hkk ((I_inj (a := kk) (b := 0) (by omega) (by omega) (by omega) (by omega)).mp q)) ?_
    refine g_goto (tgt := 3230) X dL_law_2065 (by decide) ?_
    exact GG_sub [2, 3, 4, 5, 6] rfl (GG_widen (by omega) (by omega) (hnext m3 hI))
  subst hkk
  refine t_neF 2065 X dL_law_2050 (by decide) (by decide) ?_
  refine t_al 6 X dL_law_2053 rfl rfl ?_
  refine g_iconst (v := I 0) X dL_law_2054 rfl ?_
  refine g_lald (q := sv + 62) (n := 1) X ((hF.ty _).trans h62) (by intro q; rcases q with q | q <;> exact absurd q (by decide)) dL_law_2055 ?_
  rw [show (I 0).toNatClampNeg = 0 from by decide, hF.al _ (Or.inr (by omega)), hout rfl]
  refine g_iload 0 X dL_law_2056 rfl ?_
  refine g_i2l X dL_law_2058 ?_
  refine g_lcmp X dL_law_2059 ?_
  refine t_eqT (tgt := 2065) X dL_law_2060 (by decide) (q_cmp0.mpr rfl) ?_
  refine g_goto (tgt := 3230) X dL_law_2065 (by decide) ?_
  exact GG_sub [2, 3, 4, 5, 6] rfl (GG_widen (by omega) (by omega) (hnext m3 hI))
theorem dL_law_2068 : decode cL_law 2068 = .ok (.aload_n 1, 1) := by decide +kernel
theorem dL_law_2069 : decode cL_law 2069 = .ok (.aload_n 0, 1) := by decide +kernel
theorem dL_law_2070 : decode cL_law 2070 = .ok (.iload 4, 2) := by decide +kernel
theorem dL_law_2072 : decode cL_law 2072 = .ok (.iconst 1, 1) := by decide +kernel
theorem dL_law_2073 : decode cL_law 2073 = .ok (.iadd, 1) := by decide +kernel
theorem dL_law_2074 : decode cL_law 2074 = .ok (.iaload, 1) := by decide +kernel
theorem dL_law_2075 : decode cL_law 2075 = .ok (.aload_n 0, 1) := by decide +kernel
theorem dL_law_2076 : decode cL_law 2076 = .ok (.iload 4, 2) := by decide +kernel
theorem dL_law_2078 : decode cL_law 2078 = .ok (.iconst 2, 1) := by decide +kernel
theorem dL_law_2079 : decode cL_law 2079 = .ok (.iadd, 1) := by decide +kernel
theorem dL_law_2080 : decode cL_law 2080 = .ok (.iaload, 1) := by decide +kernel
theorem dL_law_2081 : decode cL_law 2081 = .ok (.aload_n 3, 1) := by decide +kernel
theorem dL_law_2082 : decode cL_law 2082 = .ok (.invokestatic 246, 3) := by decide +kernel
theorem dL_law_2085 : decode cL_law 2085 = .ok (.istore 5, 2) := by decide +kernel
theorem dL_law_2087 : decode cL_law 2087 = .ok (.aload_n 2, 1) := by decide +kernel
theorem dL_law_2088 : decode cL_law 2088 = .ok (.aload_n 0, 1) := by decide +kernel
theorem dL_law_2089 : decode cL_law 2089 = .ok (.iload 4, 2) := by decide +kernel
theorem dL_law_2091 : decode cL_law 2091 = .ok (.iconst 1, 1) := by decide +kernel
theorem dL_law_2092 : decode cL_law 2092 = .ok (.iadd, 1) := by decide +kernel
theorem dL_law_2093 : decode cL_law 2093 = .ok (.iaload, 1) := by decide +kernel
theorem dL_law_2094 : decode cL_law 2094 = .ok (.aload_n 0, 1) := by decide +kernel
theorem dL_law_2095 : decode cL_law 2095 = .ok (.iload 4, 2) := by decide +kernel
theorem dL_law_2097 : decode cL_law 2097 = .ok (.iconst 2, 1) := by decide +kernel
theorem dL_law_2098 : decode cL_law 2098 = .ok (.iadd, 1) := by decide +kernel
theorem dL_law_2099 : decode cL_law 2099 = .ok (.iaload, 1) := by decide +kernel
theorem dL_law_2100 : decode cL_law 2100 = .ok (.invokevirtual 248, 3) := by decide +kernel
theorem dL_law_2103 : decode cL_law 2103 = .ok (.istore 6, 2) := by decide +kernel
theorem dL_law_2105 : decode cL_law 2105 = .ok (.aload_n 2, 1) := by decide +kernel
theorem dL_law_2106 : decode cL_law 2106 = .ok (.invokevirtual 157, 3) := by decide +kernel
theorem dL_law_2109 : decode cL_law 2109 = .ok (.iload 5, 2) := by decide +kernel
theorem dL_law_2111 : decode cL_law 2111 = .ok (.if_icmp .eq 5, 3) := by decide +kernel
theorem dL_law_2116 : decode cL_law 2116 = .ok (.iload 5, 2) := by decide +kernel
theorem dL_law_2118 : decode cL_law 2118 = .ok (.ifCond .ne 15, 3) := by decide +kernel
theorem dL_law_2121 : decode cL_law 2121 = .ok (.aload_n 3, 1) := by decide +kernel
theorem dL_law_2122 : decode cL_law 2122 = .ok (.iconst 0, 1) := by decide +kernel
theorem dL_law_2123 : decode cL_law 2123 = .ok (.laload, 1) := by decide +kernel
theorem dL_law_2124 : decode cL_law 2124 = .ok (.iload 6, 2) := by decide +kernel
theorem dL_law_2126 : decode cL_law 2126 = .ok (.i2l, 1) := by decide +kernel
theorem dL_law_2127 : decode cL_law 2127 = .ok (.lcmp, 1) := by decide +kernel
theorem dL_law_2128 : decode cL_law 2128 = .ok (.ifCond .eq 5, 3) := by decide +kernel
theorem dL_law_2133 : decode cL_law 2133 = .ok (.goto 1097, 3) := by decide +kernel
set_option maxRecDepth 100000 in
set_option maxHeartbeats 3200000 in
theorem lc_27 {k : QC} {mm : QM} {a b sb L sv i : Nat} {xs : Nat → Int32} {t : Int} (hL : LX k sb L xs) (h : LINV sv t mm) (ht : t + 2 ≤ 600) (hi : i + 6 ≤ L) (ha : a + 20 ≤ 601024) (hb : b + 900 ≤ 7293034) (hnext : ∀ m3, LINV sv (t + 1) m3 → GG k (lenv sb sv i) [] m3 3230 (a + 20) (b + 900)) : GG k (lenv sb sv i) [] mm 2068 a b := by
  have X := hL.1
  have hR := hL.2.1
  have hN := hL.2.2.1
  have htr := hL.2.2.2.1
  have hT : TH k (fun _ _ => False) := TH_F
  refine t_al 2 X dL_law_2068 rfl rfl ?_
  refine t_arg (p0 := 1) (p4 := 0) hL (by decide) (by decide) hi rfl rfl dL_law_2069 dL_law_2070 dL_law_2072 dL_law_2073 dL_law_2074 ?_
  refine t_arg (p0 := 1) (p4 := 0) hL (by decide) (by decide) hi rfl rfl dL_law_2075 dL_law_2076 dL_law_2078 dL_law_2079 dL_law_2080 ?_
  refine t_al 4 X dL_law_2081 rfl rfl ?_
  refine h_callS (rok (AWL sv t (F_X7_dates (sv + 20) (xs (i + 1)) (xs (i + 2))) (fun _ => True))) (st := []) X hT htr (E_L_dates sv (xs (i + 1)) (xs (i + 2))) lkh_dates stl_dates (qW_at 1090 (by decide +kernel) rfl) rfl (by rw [hR]; exact ⟨Nat.le_of_ble_eq_true rfl, Nat.le_of_ble_eq_true rfl⟩) (by exact Nat.le_of_ble_eq_true rfl) (by rw [hR]; exact ⟨by show _ ≤ 601024; omega, by show _ ≤ 7293034; omega⟩) dL_law_2082 (by rfl) (W_dates h ht (xs (i + 1)) (xs (i + 2))) (fun _ _ q => rok_x q) (fun v m2 q => ?_)
  obtain ⟨_, hv0, kk, w, G', S', S0, rfl, hk, hC, hs, h45, hR0, h62, hout, hZ, hy⟩ := q
  cases hv0
  refine g_istore (env' := [(5, .int (I kk)), (4, .int (I (i : Int))), (0, .ref sb), (1, .ref sv), (2, .ref (sv + 20)), (3, .ref (sv + 62))]) X dL_law_2085 (by rw [hN]; decide) rfl ?_
  refine t_al 4 X dL_law_2087 rfl rfl ?_
  refine t_arg (p0 := 2) (p4 := 1) hL (by decide) (by decide) hi rfl rfl dL_law_2088 dL_law_2089 dL_law_2091 dL_law_2092 dL_law_2093 ?_
  refine t_arg (p0 := 2) (p4 := 1) hL (by decide) (by decide) hi rfl rfl dL_law_2094 dL_law_2095 dL_law_2097 dL_law_2098 dL_law_2099 ?_
  obtain ⟨m3, e3, hR3, hF⟩ := hy m2 hR0
  refine g_callV (st := []) (q := sv + 20) (av := [.int (xs (i + 1)), .int (xs (i + 2))]) (x := F_X7_dates (sv + 20) (xs (i + 1)) (xs (i + 2))) (T := fun _ _ => False) X hT htr rfl hR0.ob (M_X7_dates (sv + 20) (xs (i + 1)) (xs (i + 2))) lk_X7_dates im_X7_dates se_X7_dates (qW_at 1738 (by decide +kernel) rfl) rfl (by rw [hR]; exact ⟨Nat.le_of_ble_eq_true rfl, Nat.le_of_ble_eq_true rfl⟩) (by exact Nat.le_of_ble_eq_true rfl) (by rw [hR]; exact ⟨by show _ ≤ 601024; omega, by show _ ≤ 7293034; omega⟩) dL_law_2100 ?_
  unfold qwp
  rw [e3]
  show GG k _ (.int w :: []) m3 _ _ _
  refine g_istore (env' := [(6, .int w), (5, .int (I kk)), (4, .int (I (i : Int))), (0, .ref sb), (1, .ref sv), (2, .ref (sv + 20)), (3, .ref (sv + 62))]) X dL_law_2103 (by rw [hN]; decide) rfl ?_
  refine t_al 5 X dL_law_2105 rfl rfl ?_
  refine g_callV (st := []) (q := sv + 20) (av := []) (x := F_X7_thrown (sv + 20)) (T := fun _ _ => False) X hT htr rfl hR3.ob (M_X7_thrown (sv + 20)) lk_X7_thrown im_X7_thrown se_X7_thrown (qW_at 1440 (by decide +kernel) rfl) rfl (by rw [hR]; exact ⟨Nat.le_of_ble_eq_true rfl, Nat.le_of_ble_eq_true rfl⟩) (by exact Nat.le_of_ble_eq_true rfl) (by rw [hR]; exact ⟨by show _ ≤ 601024; omega, by show _ ≤ 7293034; omega⟩) dL_law_2106 ?_
  unfold qwp
  rw [th_val hR3, h45]
  show GG k _ (.int (I kk) :: []) m3 _ _ _
  refine g_iload 1 X dL_law_2109 rfl ?_
  refine t_ceqT (tgt := 2116) X dL_law_2111 (by decide) rfl ?_
  refine g_iload 1 X dL_law_2116 rfl ?_
  have hI : LINV sv (t + 1) m3 := ⟨G', S', hC.fm hF, hs, hR3, (hF.ty _).trans h62⟩
  by_cases hkk : kk = 0
  case neg =>
    refine t_neT (tgt := 2133) X dL_law_2118 (by decide) (fun q => hkk ((I_inj (a := kk) (b := 0) (by omega) (by omega) (by omega) (by omega)).mp q)) ?_
    refine g_goto (tgt := 3230) X dL_law_2133 (by decide) ?_
    exact GG_sub [2, 3, 4, 5, 6] rfl (GG_widen (by omega) (by omega) (hnext m3 hI))
  subst hkk
  refine t_neF 2133 X dL_law_2118 (by decide) (by decide) ?_
  refine t_al 6 X dL_law_2121 rfl rfl ?_
  refine g_iconst (v := I 0) X dL_law_2122 rfl ?_
  refine g_lald (q := sv + 62) (n := 1) X ((hF.ty _).trans h62) (by intro q; rcases q with q | q <;> exact absurd q (by decide)) dL_law_2123 ?_
  rw [show (I 0).toNatClampNeg = 0 from by decide, hF.al _ (Or.inr (by omega)), hout rfl]
  refine g_iload 0 X dL_law_2124 rfl ?_
  refine g_i2l X dL_law_2126 ?_
  refine g_lcmp X dL_law_2127 ?_
  refine t_eqT (tgt := 2133) X dL_law_2128 (by decide) (q_cmp0.mpr rfl) ?_
  refine g_goto (tgt := 3230) X dL_law_2133 (by decide) ?_
  exact GG_sub [2, 3, 4, 5, 6] rfl (GG_widen (by omega) (by omega) (hnext m3 hI))
theorem dL_law_2136 : decode cL_law 2136 = .ok (.aload_n 1, 1) := by decide +kernel
theorem dL_law_2137 : decode cL_law 2137 = .ok (.aload_n 0, 1) := by decide +kernel
theorem dL_law_2138 : decode cL_law 2138 = .ok (.iload 4, 2) := by decide +kernel
theorem dL_law_2140 : decode cL_law 2140 = .ok (.iconst 1, 1) := by decide +kernel
theorem dL_law_2141 : decode cL_law 2141 = .ok (.iadd, 1) := by decide +kernel
theorem dL_law_2142 : decode cL_law 2142 = .ok (.iaload, 1) := by decide +kernel
theorem dL_law_2143 : decode cL_law 2143 = .ok (.aload_n 0, 1) := by decide +kernel
theorem dL_law_2144 : decode cL_law 2144 = .ok (.iload 4, 2) := by decide +kernel
theorem dL_law_2146 : decode cL_law 2146 = .ok (.iconst 2, 1) := by decide +kernel
theorem dL_law_2147 : decode cL_law 2147 = .ok (.iadd, 1) := by decide +kernel
theorem dL_law_2148 : decode cL_law 2148 = .ok (.iaload, 1) := by decide +kernel
theorem dL_law_2149 : decode cL_law 2149 = .ok (.aload_n 0, 1) := by decide +kernel
theorem dL_law_2150 : decode cL_law 2150 = .ok (.iload 4, 2) := by decide +kernel
theorem dL_law_2152 : decode cL_law 2152 = .ok (.iconst 3, 1) := by decide +kernel
theorem dL_law_2153 : decode cL_law 2153 = .ok (.iadd, 1) := by decide +kernel
theorem dL_law_2154 : decode cL_law 2154 = .ok (.iaload, 1) := by decide +kernel
theorem dL_law_2155 : decode cL_law 2155 = .ok (.aload_n 3, 1) := by decide +kernel
theorem dL_law_2156 : decode cL_law 2156 = .ok (.invokestatic 249, 3) := by decide +kernel
theorem dL_law_2159 : decode cL_law 2159 = .ok (.istore 5, 2) := by decide +kernel
theorem dL_law_2161 : decode cL_law 2161 = .ok (.aload_n 2, 1) := by decide +kernel
theorem dL_law_2162 : decode cL_law 2162 = .ok (.aload_n 0, 1) := by decide +kernel
theorem dL_law_2163 : decode cL_law 2163 = .ok (.iload 4, 2) := by decide +kernel
theorem dL_law_2165 : decode cL_law 2165 = .ok (.iconst 1, 1) := by decide +kernel
theorem dL_law_2166 : decode cL_law 2166 = .ok (.iadd, 1) := by decide +kernel
theorem dL_law_2167 : decode cL_law 2167 = .ok (.iaload, 1) := by decide +kernel
theorem dL_law_2168 : decode cL_law 2168 = .ok (.aload_n 0, 1) := by decide +kernel
theorem dL_law_2169 : decode cL_law 2169 = .ok (.iload 4, 2) := by decide +kernel
theorem dL_law_2171 : decode cL_law 2171 = .ok (.iconst 2, 1) := by decide +kernel
theorem dL_law_2172 : decode cL_law 2172 = .ok (.iadd, 1) := by decide +kernel
theorem dL_law_2173 : decode cL_law 2173 = .ok (.iaload, 1) := by decide +kernel
theorem dL_law_2174 : decode cL_law 2174 = .ok (.aload_n 0, 1) := by decide +kernel
theorem dL_law_2175 : decode cL_law 2175 = .ok (.iload 4, 2) := by decide +kernel
theorem dL_law_2177 : decode cL_law 2177 = .ok (.iconst 3, 1) := by decide +kernel
theorem dL_law_2178 : decode cL_law 2178 = .ok (.iadd, 1) := by decide +kernel
theorem dL_law_2179 : decode cL_law 2179 = .ok (.iaload, 1) := by decide +kernel
theorem dL_law_2180 : decode cL_law 2180 = .ok (.invokevirtual 251, 3) := by decide +kernel
theorem dL_law_2183 : decode cL_law 2183 = .ok (.istore 6, 2) := by decide +kernel
theorem dL_law_2185 : decode cL_law 2185 = .ok (.aload_n 2, 1) := by decide +kernel
theorem dL_law_2186 : decode cL_law 2186 = .ok (.invokevirtual 157, 3) := by decide +kernel
theorem dL_law_2189 : decode cL_law 2189 = .ok (.iload 5, 2) := by decide +kernel
theorem dL_law_2191 : decode cL_law 2191 = .ok (.if_icmp .eq 5, 3) := by decide +kernel
theorem dL_law_2196 : decode cL_law 2196 = .ok (.iload 5, 2) := by decide +kernel
theorem dL_law_2198 : decode cL_law 2198 = .ok (.ifCond .ne 15, 3) := by decide +kernel
theorem dL_law_2201 : decode cL_law 2201 = .ok (.aload_n 3, 1) := by decide +kernel
theorem dL_law_2202 : decode cL_law 2202 = .ok (.iconst 0, 1) := by decide +kernel
theorem dL_law_2203 : decode cL_law 2203 = .ok (.laload, 1) := by decide +kernel
theorem dL_law_2204 : decode cL_law 2204 = .ok (.iload 6, 2) := by decide +kernel
theorem dL_law_2206 : decode cL_law 2206 = .ok (.i2l, 1) := by decide +kernel
theorem dL_law_2207 : decode cL_law 2207 = .ok (.lcmp, 1) := by decide +kernel
theorem dL_law_2208 : decode cL_law 2208 = .ok (.ifCond .eq 5, 3) := by decide +kernel
theorem dL_law_2213 : decode cL_law 2213 = .ok (.goto 1017, 3) := by decide +kernel
set_option maxRecDepth 100000 in
set_option maxHeartbeats 3200000 in
theorem lc_28 {k : QC} {mm : QM} {a b sb L sv i : Nat} {xs : Nat → Int32} {t : Int} (hL : LX k sb L xs) (h : LINV sv t mm) (ht : t + 2 ≤ 600) (hi : i + 6 ≤ L) (ha : a + 20 ≤ 601024) (hb : b + 900 ≤ 7293034) (hnext : ∀ m3, LINV sv (t + 1) m3 → GG k (lenv sb sv i) [] m3 3230 (a + 20) (b + 900)) : GG k (lenv sb sv i) [] mm 2136 a b := by
  have X := hL.1
  have hR := hL.2.1
  have hN := hL.2.2.1
  have htr := hL.2.2.2.1
  have hT : TH k (fun _ _ => False) := TH_F
  refine t_al 2 X dL_law_2136 rfl rfl ?_
  refine t_arg (p0 := 1) (p4 := 0) hL (by decide) (by decide) hi rfl rfl dL_law_2137 dL_law_2138 dL_law_2140 dL_law_2141 dL_law_2142 ?_
  refine t_arg (p0 := 1) (p4 := 0) hL (by decide) (by decide) hi rfl rfl dL_law_2143 dL_law_2144 dL_law_2146 dL_law_2147 dL_law_2148 ?_
  refine t_arg (p0 := 1) (p4 := 0) hL (by decide) (by decide) hi rfl rfl dL_law_2149 dL_law_2150 dL_law_2152 dL_law_2153 dL_law_2154 ?_
  refine t_al 4 X dL_law_2155 rfl rfl ?_
  refine h_callS (rok (AWL sv t (F_X7_dateAt (sv + 20) (xs (i + 1)) (xs (i + 2)) (xs (i + 3))) (fun _ => True))) (st := []) X hT htr (E_L_dateAt sv (xs (i + 1)) (xs (i + 2)) (xs (i + 3))) lkh_dateAt stl_dateAt (qW_at 1097 (by decide +kernel) rfl) rfl (by rw [hR]; exact ⟨Nat.le_of_ble_eq_true rfl, Nat.le_of_ble_eq_true rfl⟩) (by exact Nat.le_of_ble_eq_true rfl) (by rw [hR]; exact ⟨by show _ ≤ 601024; omega, by show _ ≤ 7293034; omega⟩) dL_law_2156 (by rfl) (W_dateAt h ht (xs (i + 1)) (xs (i + 2)) (xs (i + 3))) (fun _ _ q => rok_x q) (fun v m2 q => ?_)
  obtain ⟨_, hv0, kk, w, G', S', S0, rfl, hk, hC, hs, h45, hR0, h62, hout, hZ, hy⟩ := q
  cases hv0
  refine g_istore (env' := [(5, .int (I kk)), (4, .int (I (i : Int))), (0, .ref sb), (1, .ref sv), (2, .ref (sv + 20)), (3, .ref (sv + 62))]) X dL_law_2159 (by rw [hN]; decide) rfl ?_
  refine t_al 4 X dL_law_2161 rfl rfl ?_
  refine t_arg (p0 := 2) (p4 := 1) hL (by decide) (by decide) hi rfl rfl dL_law_2162 dL_law_2163 dL_law_2165 dL_law_2166 dL_law_2167 ?_
  refine t_arg (p0 := 2) (p4 := 1) hL (by decide) (by decide) hi rfl rfl dL_law_2168 dL_law_2169 dL_law_2171 dL_law_2172 dL_law_2173 ?_
  refine t_arg (p0 := 2) (p4 := 1) hL (by decide) (by decide) hi rfl rfl dL_law_2174 dL_law_2175 dL_law_2177 dL_law_2178 dL_law_2179 ?_
  obtain ⟨m3, e3, hR3, hF⟩ := hy m2 hR0
  refine g_callV (st := []) (q := sv + 20) (av := [.int (xs (i + 1)), .int (xs (i + 2)), .int (xs (i + 3))]) (x := F_X7_dateAt (sv + 20) (xs (i + 1)) (xs (i + 2)) (xs (i + 3))) (T := fun _ _ => False) X hT htr rfl hR0.ob (M_X7_dateAt (sv + 20) (xs (i + 1)) (xs (i + 2)) (xs (i + 3))) lk_X7_dateAt im_X7_dateAt se_X7_dateAt (qW_at 1749 (by decide +kernel) rfl) rfl (by rw [hR]; exact ⟨Nat.le_of_ble_eq_true rfl, Nat.le_of_ble_eq_true rfl⟩) (by exact Nat.le_of_ble_eq_true rfl) (by rw [hR]; exact ⟨by show _ ≤ 601024; omega, by show _ ≤ 7293034; omega⟩) dL_law_2180 ?_
  unfold qwp
  rw [e3]
  show GG k _ (.int w :: []) m3 _ _ _
  refine g_istore (env' := [(6, .int w), (5, .int (I kk)), (4, .int (I (i : Int))), (0, .ref sb), (1, .ref sv), (2, .ref (sv + 20)), (3, .ref (sv + 62))]) X dL_law_2183 (by rw [hN]; decide) rfl ?_
  refine t_al 5 X dL_law_2185 rfl rfl ?_
  refine g_callV (st := []) (q := sv + 20) (av := []) (x := F_X7_thrown (sv + 20)) (T := fun _ _ => False) X hT htr rfl hR3.ob (M_X7_thrown (sv + 20)) lk_X7_thrown im_X7_thrown se_X7_thrown (qW_at 1440 (by decide +kernel) rfl) rfl (by rw [hR]; exact ⟨Nat.le_of_ble_eq_true rfl, Nat.le_of_ble_eq_true rfl⟩) (by exact Nat.le_of_ble_eq_true rfl) (by rw [hR]; exact ⟨by show _ ≤ 601024; omega, by show _ ≤ 7293034; omega⟩) dL_law_2186 ?_
  unfold qwp
  rw [th_val hR3, h45]
  show GG k _ (.int (I kk) :: []) m3 _ _ _
  refine g_iload 1 X dL_law_2189 rfl ?_
  refine t_ceqT (tgt := 2196) X dL_law_2191 (by decide) rfl ?_
  refine g_iload 1 X dL_law_2196 rfl ?_
  have hI : LINV sv (t + 1) m3 := ⟨G', S', hC.fm hF, hs, hR3, (hF.ty _).trans h62⟩
  by_cases hkk : kk = 0
  case neg =>
    refine t_neT (tgt := 2213) X dL_law_2198 (by decide) (fun q => hkk ((I_inj (a := kk) (b := 0) (by omega) (by omega) (by omega) (by omega)).mp q)) ?_
    refine g_goto (tgt := 3230) X dL_law_2213 (by decide) ?_
    exact GG_sub [2, 3, 4, 5, 6] rfl (GG_widen (by omega) (by omega) (hnext m3 hI))
  subst hkk
  refine t_neF 2213 X dL_law_2198 (by decide) (by decide) ?_
  refine t_al 6 X dL_law_2201 rfl rfl ?_
  refine g_iconst (v := I 0) X dL_law_2202 rfl ?_
  refine g_lald (q := sv + 62) (n := 1) X ((hF.ty _).trans h62) (by intro q; rcases q with q | q <;> exact absurd q (by decide)) dL_law_2203 ?_
  rw [show (I 0).toNatClampNeg = 0 from by decide, hF.al _ (Or.inr (by omega)), hout rfl]
  refine g_iload 0 X dL_law_2204 rfl ?_
  refine g_i2l X dL_law_2206 ?_
  refine g_lcmp X dL_law_2207 ?_
  refine t_eqT (tgt := 2213) X dL_law_2208 (by decide) (q_cmp0.mpr rfl) ?_
  refine g_goto (tgt := 3230) X dL_law_2213 (by decide) ?_
  exact GG_sub [2, 3, 4, 5, 6] rfl (GG_widen (by omega) (by omega) (hnext m3 hI))
theorem dL_law_2216 : decode cL_law 2216 = .ok (.aload_n 1, 1) := by decide +kernel
theorem dL_law_2217 : decode cL_law 2217 = .ok (.aload_n 0, 1) := by decide +kernel
theorem dL_law_2218 : decode cL_law 2218 = .ok (.iload 4, 2) := by decide +kernel
theorem dL_law_2220 : decode cL_law 2220 = .ok (.iconst 1, 1) := by decide +kernel
theorem dL_law_2221 : decode cL_law 2221 = .ok (.iadd, 1) := by decide +kernel
theorem dL_law_2222 : decode cL_law 2222 = .ok (.iaload, 1) := by decide +kernel
theorem dL_law_2223 : decode cL_law 2223 = .ok (.aload_n 0, 1) := by decide +kernel
theorem dL_law_2224 : decode cL_law 2224 = .ok (.iload 4, 2) := by decide +kernel
theorem dL_law_2226 : decode cL_law 2226 = .ok (.iconst 2, 1) := by decide +kernel
theorem dL_law_2227 : decode cL_law 2227 = .ok (.iadd, 1) := by decide +kernel
theorem dL_law_2228 : decode cL_law 2228 = .ok (.iaload, 1) := by decide +kernel
theorem dL_law_2229 : decode cL_law 2229 = .ok (.aload_n 0, 1) := by decide +kernel
theorem dL_law_2230 : decode cL_law 2230 = .ok (.iload 4, 2) := by decide +kernel
theorem dL_law_2232 : decode cL_law 2232 = .ok (.iconst 3, 1) := by decide +kernel
theorem dL_law_2233 : decode cL_law 2233 = .ok (.iadd, 1) := by decide +kernel
theorem dL_law_2234 : decode cL_law 2234 = .ok (.iaload, 1) := by decide +kernel
theorem dL_law_2235 : decode cL_law 2235 = .ok (.aload_n 3, 1) := by decide +kernel
theorem dL_law_2236 : decode cL_law 2236 = .ok (.invokestatic 252, 3) := by decide +kernel
theorem dL_law_2239 : decode cL_law 2239 = .ok (.istore 5, 2) := by decide +kernel
theorem dL_law_2241 : decode cL_law 2241 = .ok (.aload_n 2, 1) := by decide +kernel
theorem dL_law_2242 : decode cL_law 2242 = .ok (.aload_n 0, 1) := by decide +kernel
theorem dL_law_2243 : decode cL_law 2243 = .ok (.iload 4, 2) := by decide +kernel
theorem dL_law_2245 : decode cL_law 2245 = .ok (.iconst 1, 1) := by decide +kernel
theorem dL_law_2246 : decode cL_law 2246 = .ok (.iadd, 1) := by decide +kernel
theorem dL_law_2247 : decode cL_law 2247 = .ok (.iaload, 1) := by decide +kernel
theorem dL_law_2248 : decode cL_law 2248 = .ok (.aload_n 0, 1) := by decide +kernel
theorem dL_law_2249 : decode cL_law 2249 = .ok (.iload 4, 2) := by decide +kernel
theorem dL_law_2251 : decode cL_law 2251 = .ok (.iconst 2, 1) := by decide +kernel
theorem dL_law_2252 : decode cL_law 2252 = .ok (.iadd, 1) := by decide +kernel
theorem dL_law_2253 : decode cL_law 2253 = .ok (.iaload, 1) := by decide +kernel
theorem dL_law_2254 : decode cL_law 2254 = .ok (.aload_n 0, 1) := by decide +kernel
theorem dL_law_2255 : decode cL_law 2255 = .ok (.iload 4, 2) := by decide +kernel
theorem dL_law_2257 : decode cL_law 2257 = .ok (.iconst 3, 1) := by decide +kernel
theorem dL_law_2258 : decode cL_law 2258 = .ok (.iadd, 1) := by decide +kernel
theorem dL_law_2259 : decode cL_law 2259 = .ok (.iaload, 1) := by decide +kernel
theorem dL_law_2260 : decode cL_law 2260 = .ok (.invokevirtual 254, 3) := by decide +kernel
theorem dL_law_2263 : decode cL_law 2263 = .ok (.istore 6, 2) := by decide +kernel
theorem dL_law_2265 : decode cL_law 2265 = .ok (.aload_n 2, 1) := by decide +kernel
theorem dL_law_2266 : decode cL_law 2266 = .ok (.invokevirtual 157, 3) := by decide +kernel
theorem dL_law_2269 : decode cL_law 2269 = .ok (.iload 5, 2) := by decide +kernel
theorem dL_law_2271 : decode cL_law 2271 = .ok (.if_icmp .eq 5, 3) := by decide +kernel
theorem dL_law_2276 : decode cL_law 2276 = .ok (.iload 5, 2) := by decide +kernel
theorem dL_law_2278 : decode cL_law 2278 = .ok (.ifCond .ne 15, 3) := by decide +kernel
theorem dL_law_2281 : decode cL_law 2281 = .ok (.aload_n 3, 1) := by decide +kernel
theorem dL_law_2282 : decode cL_law 2282 = .ok (.iconst 0, 1) := by decide +kernel
theorem dL_law_2283 : decode cL_law 2283 = .ok (.laload, 1) := by decide +kernel
theorem dL_law_2284 : decode cL_law 2284 = .ok (.iload 6, 2) := by decide +kernel
theorem dL_law_2286 : decode cL_law 2286 = .ok (.i2l, 1) := by decide +kernel
theorem dL_law_2287 : decode cL_law 2287 = .ok (.lcmp, 1) := by decide +kernel
theorem dL_law_2288 : decode cL_law 2288 = .ok (.ifCond .eq 5, 3) := by decide +kernel
theorem dL_law_2293 : decode cL_law 2293 = .ok (.goto 937, 3) := by decide +kernel
set_option maxRecDepth 100000 in
set_option maxHeartbeats 3200000 in
theorem lc_29 {k : QC} {mm : QM} {a b sb L sv i : Nat} {xs : Nat → Int32} {t : Int} (hL : LX k sb L xs) (h : LINV sv t mm) (ht : t + 2 ≤ 600) (hi : i + 6 ≤ L) (ha : a + 20 ≤ 601024) (hb : b + 900 ≤ 7293034) (hnext : ∀ m3, LINV sv (t + 1) m3 → GG k (lenv sb sv i) [] m3 3230 (a + 20) (b + 900)) : GG k (lenv sb sv i) [] mm 2216 a b := by
  have X := hL.1
  have hR := hL.2.1
  have hN := hL.2.2.1
  have htr := hL.2.2.2.1
  have hT : TH k (fun _ _ => False) := TH_F
  refine t_al 2 X dL_law_2216 rfl rfl ?_
  refine t_arg (p0 := 1) (p4 := 0) hL (by decide) (by decide) hi rfl rfl dL_law_2217 dL_law_2218 dL_law_2220 dL_law_2221 dL_law_2222 ?_
  refine t_arg (p0 := 1) (p4 := 0) hL (by decide) (by decide) hi rfl rfl dL_law_2223 dL_law_2224 dL_law_2226 dL_law_2227 dL_law_2228 ?_
  refine t_arg (p0 := 1) (p4 := 0) hL (by decide) (by decide) hi rfl rfl dL_law_2229 dL_law_2230 dL_law_2232 dL_law_2233 dL_law_2234 ?_
  refine t_al 4 X dL_law_2235 rfl rfl ?_
  refine h_callS (rok (AWL sv t (F_X7_begin (sv + 20) (xs (i + 1)) (xs (i + 2)) (xs (i + 3))) (fun _ => True))) (st := []) X hT htr (E_L_begin sv (xs (i + 1)) (xs (i + 2)) (xs (i + 3))) lkh_begin stl_begin (qW_at 1104 (by decide +kernel) rfl) rfl (by rw [hR]; exact ⟨Nat.le_of_ble_eq_true rfl, Nat.le_of_ble_eq_true rfl⟩) (by exact Nat.le_of_ble_eq_true rfl) (by rw [hR]; exact ⟨by show _ ≤ 601024; omega, by show _ ≤ 7293034; omega⟩) dL_law_2236 (by rfl) (W_begin h ht (xs (i + 1)) (xs (i + 2)) (xs (i + 3))) (fun _ _ q => rok_x q) (fun v m2 q => ?_)
  obtain ⟨_, hv0, kk, w, G', S', S0, rfl, hk, hC, hs, h45, hR0, h62, hout, hZ, hy⟩ := q
  cases hv0
  refine g_istore (env' := [(5, .int (I kk)), (4, .int (I (i : Int))), (0, .ref sb), (1, .ref sv), (2, .ref (sv + 20)), (3, .ref (sv + 62))]) X dL_law_2239 (by rw [hN]; decide) rfl ?_
  refine t_al 4 X dL_law_2241 rfl rfl ?_
  refine t_arg (p0 := 2) (p4 := 1) hL (by decide) (by decide) hi rfl rfl dL_law_2242 dL_law_2243 dL_law_2245 dL_law_2246 dL_law_2247 ?_
  refine t_arg (p0 := 2) (p4 := 1) hL (by decide) (by decide) hi rfl rfl dL_law_2248 dL_law_2249 dL_law_2251 dL_law_2252 dL_law_2253 ?_
  refine t_arg (p0 := 2) (p4 := 1) hL (by decide) (by decide) hi rfl rfl dL_law_2254 dL_law_2255 dL_law_2257 dL_law_2258 dL_law_2259 ?_
  obtain ⟨m3, e3, hR3, hF⟩ := hy m2 hR0
  refine g_callV (st := []) (q := sv + 20) (av := [.int (xs (i + 1)), .int (xs (i + 2)), .int (xs (i + 3))]) (x := F_X7_begin (sv + 20) (xs (i + 1)) (xs (i + 2)) (xs (i + 3))) (T := fun _ _ => False) X hT htr rfl hR0.ob (M_X7_begin (sv + 20) (xs (i + 1)) (xs (i + 2)) (xs (i + 3))) lk_X7_begin im_X7_begin se_X7_begin (qW_at 1753 (by decide +kernel) rfl) rfl (by rw [hR]; exact ⟨Nat.le_of_ble_eq_true rfl, Nat.le_of_ble_eq_true rfl⟩) (by exact Nat.le_of_ble_eq_true rfl) (by rw [hR]; exact ⟨by show _ ≤ 601024; omega, by show _ ≤ 7293034; omega⟩) dL_law_2260 ?_
  unfold qwp
  rw [e3]
  show GG k _ (.int w :: []) m3 _ _ _
  refine g_istore (env' := [(6, .int w), (5, .int (I kk)), (4, .int (I (i : Int))), (0, .ref sb), (1, .ref sv), (2, .ref (sv + 20)), (3, .ref (sv + 62))]) X dL_law_2263 (by rw [hN]; decide) rfl ?_
  refine t_al 5 X dL_law_2265 rfl rfl ?_
  refine g_callV (st := []) (q := sv + 20) (av := []) (x := F_X7_thrown (sv + 20)) (T := fun _ _ => False) X hT htr rfl hR3.ob (M_X7_thrown (sv + 20)) lk_X7_thrown im_X7_thrown se_X7_thrown (qW_at 1440 (by decide +kernel) rfl) rfl (by rw [hR]; exact ⟨Nat.le_of_ble_eq_true rfl, Nat.le_of_ble_eq_true rfl⟩) (by exact Nat.le_of_ble_eq_true rfl) (by rw [hR]; exact ⟨by show _ ≤ 601024; omega, by show _ ≤ 7293034; omega⟩) dL_law_2266 ?_
  unfold qwp
  rw [th_val hR3, h45]
  show GG k _ (.int (I kk) :: []) m3 _ _ _
  refine g_iload 1 X dL_law_2269 rfl ?_
  refine t_ceqT (tgt := 2276) X dL_law_2271 (by decide) rfl ?_
  refine g_iload 1 X dL_law_2276 rfl ?_
  have hI : LINV sv (t + 1) m3 := ⟨G', S', hC.fm hF, hs, hR3, (hF.ty _).trans h62⟩
  by_cases hkk : kk = 0
  case neg =>
    refine t_neT (tgt := 2293) X dL_law_2278 (by decide) (fun q => hkk ((I_inj (a := kk) (b := 0) (by omega) (by omega) (by omega) (by omega)).mp q)) ?_
    refine g_goto (tgt := 3230) X dL_law_2293 (by decide) ?_
    exact GG_sub [2, 3, 4, 5, 6] rfl (GG_widen (by omega) (by omega) (hnext m3 hI))
  subst hkk
  refine t_neF 2293 X dL_law_2278 (by decide) (by decide) ?_
  refine t_al 6 X dL_law_2281 rfl rfl ?_
  refine g_iconst (v := I 0) X dL_law_2282 rfl ?_
  refine g_lald (q := sv + 62) (n := 1) X ((hF.ty _).trans h62) (by intro q; rcases q with q | q <;> exact absurd q (by decide)) dL_law_2283 ?_
  rw [show (I 0).toNatClampNeg = 0 from by decide, hF.al _ (Or.inr (by omega)), hout rfl]
  refine g_iload 0 X dL_law_2284 rfl ?_
  refine g_i2l X dL_law_2286 ?_
  refine g_lcmp X dL_law_2287 ?_
  refine t_eqT (tgt := 2293) X dL_law_2288 (by decide) (q_cmp0.mpr rfl) ?_
  refine g_goto (tgt := 3230) X dL_law_2293 (by decide) ?_
  exact GG_sub [2, 3, 4, 5, 6] rfl (GG_widen (by omega) (by omega) (hnext m3 hI))
