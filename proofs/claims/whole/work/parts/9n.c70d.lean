/-! the law's cases 18 to 23 -/
theorem dL_law_1600 : decode cL_law 1600 = .ok (.aload_n 1, 1) := by decide +kernel
theorem dL_law_1601 : decode cL_law 1601 = .ok (.aload_n 0, 1) := by decide +kernel
theorem dL_law_1602 : decode cL_law 1602 = .ok (.iload 4, 2) := by decide +kernel
theorem dL_law_1604 : decode cL_law 1604 = .ok (.iconst 1, 1) := by decide +kernel
theorem dL_law_1605 : decode cL_law 1605 = .ok (.iadd, 1) := by decide +kernel
theorem dL_law_1606 : decode cL_law 1606 = .ok (.iaload, 1) := by decide +kernel
theorem dL_law_1607 : decode cL_law 1607 = .ok (.aload_n 3, 1) := by decide +kernel
theorem dL_law_1608 : decode cL_law 1608 = .ok (.invokestatic 217, 3) := by decide +kernel
theorem dL_law_1611 : decode cL_law 1611 = .ok (.istore 5, 2) := by decide +kernel
theorem dL_law_1613 : decode cL_law 1613 = .ok (.aload_n 2, 1) := by decide +kernel
theorem dL_law_1614 : decode cL_law 1614 = .ok (.aload_n 0, 1) := by decide +kernel
theorem dL_law_1615 : decode cL_law 1615 = .ok (.iload 4, 2) := by decide +kernel
theorem dL_law_1617 : decode cL_law 1617 = .ok (.iconst 1, 1) := by decide +kernel
theorem dL_law_1618 : decode cL_law 1618 = .ok (.iadd, 1) := by decide +kernel
theorem dL_law_1619 : decode cL_law 1619 = .ok (.iaload, 1) := by decide +kernel
theorem dL_law_1620 : decode cL_law 1620 = .ok (.invokevirtual 219, 3) := by decide +kernel
theorem dL_law_1623 : decode cL_law 1623 = .ok (.istore 6, 2) := by decide +kernel
theorem dL_law_1625 : decode cL_law 1625 = .ok (.aload_n 2, 1) := by decide +kernel
theorem dL_law_1626 : decode cL_law 1626 = .ok (.invokevirtual 157, 3) := by decide +kernel
theorem dL_law_1629 : decode cL_law 1629 = .ok (.iload 5, 2) := by decide +kernel
theorem dL_law_1631 : decode cL_law 1631 = .ok (.if_icmp .eq 5, 3) := by decide +kernel
theorem dL_law_1636 : decode cL_law 1636 = .ok (.iload 5, 2) := by decide +kernel
theorem dL_law_1638 : decode cL_law 1638 = .ok (.ifCond .ne 22, 3) := by decide +kernel
theorem dL_law_1641 : decode cL_law 1641 = .ok (.aload_n 3, 1) := by decide +kernel
theorem dL_law_1642 : decode cL_law 1642 = .ok (.iconst 0, 1) := by decide +kernel
theorem dL_law_1643 : decode cL_law 1643 = .ok (.laload, 1) := by decide +kernel
theorem dL_law_1644 : decode cL_law 1644 = .ok (.iload 6, 2) := by decide +kernel
theorem dL_law_1646 : decode cL_law 1646 = .ok (.ifCond .eq 7, 3) := by decide +kernel
theorem dL_law_1649 : decode cL_law 1649 = .ok (.lconst 1, 1) := by decide +kernel
theorem dL_law_1650 : decode cL_law 1650 = .ok (.goto 4, 3) := by decide +kernel
theorem dL_law_1653 : decode cL_law 1653 = .ok (.lconst 0, 1) := by decide +kernel
theorem dL_law_1654 : decode cL_law 1654 = .ok (.lcmp, 1) := by decide +kernel
theorem dL_law_1655 : decode cL_law 1655 = .ok (.ifCond .eq 5, 3) := by decide +kernel
theorem dL_law_1660 : decode cL_law 1660 = .ok (.goto 1570, 3) := by decide +kernel
set_option maxRecDepth 100000 in
set_option maxHeartbeats 3200000 in
theorem lc_18 {k : QC} {mm : QM} {a b sb L sv i : Nat} {xs : Nat → Int32} {t : Int} (hL : LX k sb L xs) (h : LINV sv t mm) (ht : t + 2 ≤ 600) (hi : i + 6 ≤ L) (ha : a + 20 ≤ 601024) (hb : b + 900 ≤ 7293034) (hnext : ∀ m3, LINV sv (t + 1) m3 → GG k (lenv sb sv i) [] m3 3230 (a + 20) (b + 900)) : GG k (lenv sb sv i) [] mm 1600 a b := by
  have X := hL.1
  have hR := hL.2.1
  have hN := hL.2.2.1
  have htr := hL.2.2.2.1
  have hT : TH k (fun _ _ => False) := TH_F
  refine t_al 2 X dL_law_1600 rfl rfl ?_
  refine t_arg (p0 := 1) (p4 := 0) hL (by decide) (by decide) hi rfl rfl dL_law_1601 dL_law_1602 dL_law_1604 dL_law_1605 dL_law_1606 ?_
  refine t_al 4 X dL_law_1607 rfl rfl ?_
  refine h_callS (rok (AWL sv t (F_X7_deliver (sv + 20) (xs (i + 1))) (fun v => v = 0 ∨ v = 1))) (st := []) X hT htr (E_L_deliver sv (xs (i + 1))) lkh_deliver stl_deliver (qW_at 799 (by decide +kernel) rfl) rfl (by rw [hR]; exact ⟨Nat.le_of_ble_eq_true rfl, Nat.le_of_ble_eq_true rfl⟩) (by exact Nat.le_of_ble_eq_true rfl) (by rw [hR]; exact ⟨by show _ ≤ 601024; omega, by show _ ≤ 7293034; omega⟩) dL_law_1608 (by rfl) (W_deliver h ht (xs (i + 1))) (fun _ _ q => rok_x q) (fun v m2 q => ?_)
  obtain ⟨_, hv0, kk, w, G', S', S0, rfl, hk, hC, hs, h45, hR0, h62, hout, hZ, hy⟩ := q
  cases hv0
  refine g_istore (env' := [(5, .int (I kk)), (4, .int (I (i : Int))), (0, .ref sb), (1, .ref sv), (2, .ref (sv + 20)), (3, .ref (sv + 62))]) X dL_law_1611 (by rw [hN]; decide) rfl ?_
  refine t_al 4 X dL_law_1613 rfl rfl ?_
  refine t_arg (p0 := 2) (p4 := 1) hL (by decide) (by decide) hi rfl rfl dL_law_1614 dL_law_1615 dL_law_1617 dL_law_1618 dL_law_1619 ?_
  obtain ⟨m3, e3, hR3, hF⟩ := hy m2 hR0
  refine g_callV (st := []) (q := sv + 20) (av := [.int (xs (i + 1))]) (x := F_X7_deliver (sv + 20) (xs (i + 1))) (T := fun _ _ => False) X hT htr rfl hR0.ob (M_X7_deliver (sv + 20) (xs (i + 1))) lk_X7_deliver im_X7_deliver se_X7_deliver (qW_at 1653 (by decide +kernel) rfl) rfl (by rw [hR]; exact ⟨Nat.le_of_ble_eq_true rfl, Nat.le_of_ble_eq_true rfl⟩) (by exact Nat.le_of_ble_eq_true rfl) (by rw [hR]; exact ⟨by show _ ≤ 601024; omega, by show _ ≤ 7293034; omega⟩) dL_law_1620 ?_
  unfold qwp
  rw [e3]
  show GG k _ (.int w :: []) m3 _ _ _
  refine g_istore (env' := [(6, .int w), (5, .int (I kk)), (4, .int (I (i : Int))), (0, .ref sb), (1, .ref sv), (2, .ref (sv + 20)), (3, .ref (sv + 62))]) X dL_law_1623 (by rw [hN]; decide) rfl ?_
  refine t_al 5 X dL_law_1625 rfl rfl ?_
  refine g_callV (st := []) (q := sv + 20) (av := []) (x := F_X7_thrown (sv + 20)) (T := fun _ _ => False) X hT htr rfl hR3.ob (M_X7_thrown (sv + 20)) lk_X7_thrown im_X7_thrown se_X7_thrown (qW_at 1440 (by decide +kernel) rfl) rfl (by rw [hR]; exact ⟨Nat.le_of_ble_eq_true rfl, Nat.le_of_ble_eq_true rfl⟩) (by exact Nat.le_of_ble_eq_true rfl) (by rw [hR]; exact ⟨by show _ ≤ 601024; omega, by show _ ≤ 7293034; omega⟩) dL_law_1626 ?_
  unfold qwp
  rw [th_val hR3, h45]
  show GG k _ (.int (I kk) :: []) m3 _ _ _
  refine g_iload 1 X dL_law_1629 rfl ?_
  refine t_ceqT (tgt := 1636) X dL_law_1631 (by decide) rfl ?_
  refine g_iload 1 X dL_law_1636 rfl ?_
  have hI : LINV sv (t + 1) m3 := ⟨G', S', hC.fm hF, hs, hR3, (hF.ty _).trans h62⟩
  by_cases hkk : kk = 0
  case neg =>
    refine t_neT (tgt := 1660) X dL_law_1638 (by decide) (fun q => hkk ((I_inj (a := kk) (b := 0) (by omega) (by omega) (by omega) (by omega)).mp q)) ?_
    refine g_goto (tgt := 3230) X dL_law_1660 (by decide) ?_
    exact GG_sub [2, 3, 4, 5, 6] rfl (GG_widen (by omega) (by omega) (hnext m3 hI))
  subst hkk
  refine t_neF 1660 X dL_law_1638 (by decide) (by decide) ?_
  refine t_al 6 X dL_law_1641 rfl rfl ?_
  refine g_iconst (v := I 0) X dL_law_1642 rfl ?_
  refine g_lald (q := sv + 62) (n := 1) X ((hF.ty _).trans h62) (by intro q; rcases q with q | q <;> exact absurd q (by decide)) dL_law_1643 ?_
  rw [show (I 0).toNatClampNeg = 0 from by decide, hF.al _ (Or.inr (by omega)), hout rfl]
  refine g_iload 0 X dL_law_1644 rfl ?_
  rcases hZ with rfl | rfl
  · refine t_eqT (tgt := 1653) X dL_law_1646 (by decide) rfl ?_
    refine g_lconst (v := (0 : Int32).toInt64) X dL_law_1653 (by decide) ?_
    refine g_lcmp X dL_law_1654 ?_
    refine t_eqT (tgt := 1660) X dL_law_1655 (by decide) (q_cmp0.mpr rfl) ?_
    refine g_goto (tgt := 3230) X dL_law_1660 (by decide) ?_
    exact GG_sub [2, 3, 4, 5, 6] rfl (GG_widen (by omega) (by omega) (hnext m3 hI))
  · refine t_eqF 1653 X dL_law_1646 (by decide) (by decide) ?_
    refine g_lconst (v := (1 : Int32).toInt64) X dL_law_1649 (by decide) ?_
    refine g_goto (tgt := 1654) X dL_law_1650 (by decide) ?_
    refine g_lcmp X dL_law_1654 ?_
    refine t_eqT (tgt := 1660) X dL_law_1655 (by decide) (q_cmp0.mpr rfl) ?_
    refine g_goto (tgt := 3230) X dL_law_1660 (by decide) ?_
    exact GG_sub [2, 3, 4, 5, 6] rfl (GG_widen (by omega) (by omega) (hnext m3 hI))
theorem dL_law_1663 : decode cL_law 1663 = .ok (.aload_n 1, 1) := by decide +kernel
theorem dL_law_1664 : decode cL_law 1664 = .ok (.invokevirtual 220, 3) := by decide +kernel
theorem dL_law_1667 : decode cL_law 1667 = .ok (.aload_n 2, 1) := by decide +kernel
theorem dL_law_1668 : decode cL_law 1668 = .ok (.invokevirtual 223, 3) := by decide +kernel
theorem dL_law_1671 : decode cL_law 1671 = .ok (.if_icmp .eq 1559, 3) := by decide +kernel
set_option maxRecDepth 100000 in
set_option maxHeartbeats 3200000 in
theorem lc_19 {k : QC} {mm : QM} {a b sb L sv i : Nat} {xs : Nat → Int32} {t : Int} (hL : LX k sb L xs) (h : LINV sv t mm) (ht : t + 2 ≤ 600) (hi : i + 6 ≤ L) (ha : a + 20 ≤ 601024) (hb : b + 900 ≤ 7293034) (hnext : ∀ m3, LINV sv (t + 1) m3 → GG k (lenv sb sv i) [] m3 3230 (a + 20) (b + 900)) : GG k (lenv sb sv i) [] mm 1663 a b := by
  have X := hL.1
  have hR := hL.2.1
  have hN := hL.2.2.1
  have htr := hL.2.2.2.1
  have hT : TH k (fun _ _ => False) := TH_F
  obtain ⟨G, S, hC, hs, hRM, h62⟩ := h
  obtain ⟨G', S', m1, S0, hx, hk, hC1, hs1, h45, hR0, hy⟩ := j_messages hC hs ht hRM
  refine t_al 2 X dL_law_1663 rfl rfl ?_
  refine g_callV (st := []) (q := sv) (av := []) (x := F_X6_messages sv) (T := fun _ _ => False) X hT htr rfl hC.cf.ty (M_X6_messages sv) lk_X6_messages im_X6_messages se_X6_messages (qW_at 184 (by decide +kernel) rfl) rfl (by rw [hR]; exact ⟨Nat.le_of_ble_eq_true rfl, Nat.le_of_ble_eq_true rfl⟩) (by exact Nat.le_of_ble_eq_true rfl) (by rw [hR]; exact ⟨by show _ ≤ 601024; omega, by show _ ≤ 7293034; omega⟩) dL_law_1664 ?_
  unfold qwp
  rw [hx]
  obtain ⟨m3, e3, hR3, hF⟩ := hy m1 hR0
  show GG k _ (.int (I (mf S 29)) :: []) m1 _ _ _
  refine t_al 3 X dL_law_1667 rfl rfl ?_
  refine g_callV (st := [.int (I (mf S 29))]) (q := sv + 20) (av := []) (x := F_X7_messages (sv + 20)) (T := fun _ _ => False) X hT htr rfl hR0.ob (M_X7_messages (sv + 20)) lk_X7_messages im_X7_messages se_X7_messages (qW_at 1661 (by decide +kernel) rfl) rfl (by rw [hR]; exact ⟨Nat.le_of_ble_eq_true rfl, Nat.le_of_ble_eq_true rfl⟩) (by exact Nat.le_of_ble_eq_true rfl) (by rw [hR]; exact ⟨by show _ ≤ 601024; omega, by show _ ≤ 7293034; omega⟩) dL_law_1668 ?_
  unfold qwp
  rw [e3]
  show GG k _ (.int (I (mf S 29)) :: .int (I (mf S 29)) :: []) m3 _ _ _
  refine t_ceqT (tgt := 3230) X dL_law_1671 (by decide) rfl ?_
  exact GG_widen (by omega) (by omega) (hnext m3 ⟨G', S', hC1.fm hF, hs1, hR3, (hF.ty _).trans (hk.ty62 h62)⟩)
theorem dL_law_1676 : decode cL_law 1676 = .ok (.aload_n 1, 1) := by decide +kernel
theorem dL_law_1677 : decode cL_law 1677 = .ok (.aload_n 0, 1) := by decide +kernel
theorem dL_law_1678 : decode cL_law 1678 = .ok (.iload 4, 2) := by decide +kernel
theorem dL_law_1680 : decode cL_law 1680 = .ok (.iconst 1, 1) := by decide +kernel
theorem dL_law_1681 : decode cL_law 1681 = .ok (.iadd, 1) := by decide +kernel
theorem dL_law_1682 : decode cL_law 1682 = .ok (.iaload, 1) := by decide +kernel
theorem dL_law_1683 : decode cL_law 1683 = .ok (.aload_n 3, 1) := by decide +kernel
theorem dL_law_1684 : decode cL_law 1684 = .ok (.invokestatic 224, 3) := by decide +kernel
theorem dL_law_1687 : decode cL_law 1687 = .ok (.istore 5, 2) := by decide +kernel
theorem dL_law_1689 : decode cL_law 1689 = .ok (.aload_n 2, 1) := by decide +kernel
theorem dL_law_1690 : decode cL_law 1690 = .ok (.aload_n 0, 1) := by decide +kernel
theorem dL_law_1691 : decode cL_law 1691 = .ok (.iload 4, 2) := by decide +kernel
theorem dL_law_1693 : decode cL_law 1693 = .ok (.iconst 1, 1) := by decide +kernel
theorem dL_law_1694 : decode cL_law 1694 = .ok (.iadd, 1) := by decide +kernel
theorem dL_law_1695 : decode cL_law 1695 = .ok (.iaload, 1) := by decide +kernel
theorem dL_law_1696 : decode cL_law 1696 = .ok (.invokevirtual 226, 3) := by decide +kernel
theorem dL_law_1699 : decode cL_law 1699 = .ok (.istore 6, 2) := by decide +kernel
theorem dL_law_1701 : decode cL_law 1701 = .ok (.aload_n 2, 1) := by decide +kernel
theorem dL_law_1702 : decode cL_law 1702 = .ok (.invokevirtual 157, 3) := by decide +kernel
theorem dL_law_1705 : decode cL_law 1705 = .ok (.iload 5, 2) := by decide +kernel
theorem dL_law_1707 : decode cL_law 1707 = .ok (.if_icmp .eq 5, 3) := by decide +kernel
theorem dL_law_1712 : decode cL_law 1712 = .ok (.iload 5, 2) := by decide +kernel
theorem dL_law_1714 : decode cL_law 1714 = .ok (.ifCond .ne 15, 3) := by decide +kernel
theorem dL_law_1717 : decode cL_law 1717 = .ok (.aload_n 3, 1) := by decide +kernel
theorem dL_law_1718 : decode cL_law 1718 = .ok (.iconst 0, 1) := by decide +kernel
theorem dL_law_1719 : decode cL_law 1719 = .ok (.laload, 1) := by decide +kernel
theorem dL_law_1720 : decode cL_law 1720 = .ok (.iload 6, 2) := by decide +kernel
theorem dL_law_1722 : decode cL_law 1722 = .ok (.i2l, 1) := by decide +kernel
theorem dL_law_1723 : decode cL_law 1723 = .ok (.lcmp, 1) := by decide +kernel
theorem dL_law_1724 : decode cL_law 1724 = .ok (.ifCond .eq 5, 3) := by decide +kernel
theorem dL_law_1729 : decode cL_law 1729 = .ok (.goto 1501, 3) := by decide +kernel
set_option maxRecDepth 100000 in
set_option maxHeartbeats 3200000 in
theorem lc_20 {k : QC} {mm : QM} {a b sb L sv i : Nat} {xs : Nat → Int32} {t : Int} (hL : LX k sb L xs) (h : LINV sv t mm) (ht : t + 2 ≤ 600) (hi : i + 6 ≤ L) (ha : a + 20 ≤ 601024) (hb : b + 900 ≤ 7293034) (hnext : ∀ m3, LINV sv (t + 1) m3 → GG k (lenv sb sv i) [] m3 3230 (a + 20) (b + 900)) : GG k (lenv sb sv i) [] mm 1676 a b := by
  have X := hL.1
  have hR := hL.2.1
  have hN := hL.2.2.1
  have htr := hL.2.2.2.1
  have hT : TH k (fun _ _ => False) := TH_F
  refine t_al 2 X dL_law_1676 rfl rfl ?_
  refine t_arg (p0 := 1) (p4 := 0) hL (by decide) (by decide) hi rfl rfl dL_law_1677 dL_law_1678 dL_law_1680 dL_law_1681 dL_law_1682 ?_
  refine t_al 4 X dL_law_1683 rfl rfl ?_
  refine h_callS (rok (AWL sv t (F_X7_kindOf (sv + 20) (xs (i + 1))) (fun _ => True))) (st := []) X hT htr (E_L_kindOf sv (xs (i + 1))) lkh_kindOf stl_kindOf (qW_at 815 (by decide +kernel) rfl) rfl (by rw [hR]; exact ⟨Nat.le_of_ble_eq_true rfl, Nat.le_of_ble_eq_true rfl⟩) (by exact Nat.le_of_ble_eq_true rfl) (by rw [hR]; exact ⟨by show _ ≤ 601024; omega, by show _ ≤ 7293034; omega⟩) dL_law_1684 (by rfl) (W_kindOf h ht (xs (i + 1))) (fun _ _ q => rok_x q) (fun v m2 q => ?_)
  obtain ⟨_, hv0, kk, w, G', S', S0, rfl, hk, hC, hs, h45, hR0, h62, hout, hZ, hy⟩ := q
  cases hv0
  refine g_istore (env' := [(5, .int (I kk)), (4, .int (I (i : Int))), (0, .ref sb), (1, .ref sv), (2, .ref (sv + 20)), (3, .ref (sv + 62))]) X dL_law_1687 (by rw [hN]; decide) rfl ?_
  refine t_al 4 X dL_law_1689 rfl rfl ?_
  refine t_arg (p0 := 2) (p4 := 1) hL (by decide) (by decide) hi rfl rfl dL_law_1690 dL_law_1691 dL_law_1693 dL_law_1694 dL_law_1695 ?_
  obtain ⟨m3, e3, hR3, hF⟩ := hy m2 hR0
  refine g_callV (st := []) (q := sv + 20) (av := [.int (xs (i + 1))]) (x := F_X7_kindOf (sv + 20) (xs (i + 1))) (T := fun _ _ => False) X hT htr rfl hR0.ob (M_X7_kindOf (sv + 20) (xs (i + 1))) lk_X7_kindOf im_X7_kindOf se_X7_kindOf (qW_at 1669 (by decide +kernel) rfl) rfl (by rw [hR]; exact ⟨Nat.le_of_ble_eq_true rfl, Nat.le_of_ble_eq_true rfl⟩) (by exact Nat.le_of_ble_eq_true rfl) (by rw [hR]; exact ⟨by show _ ≤ 601024; omega, by show _ ≤ 7293034; omega⟩) dL_law_1696 ?_
  unfold qwp
  rw [e3]
  show GG k _ (.int w :: []) m3 _ _ _
  refine g_istore (env' := [(6, .int w), (5, .int (I kk)), (4, .int (I (i : Int))), (0, .ref sb), (1, .ref sv), (2, .ref (sv + 20)), (3, .ref (sv + 62))]) X dL_law_1699 (by rw [hN]; decide) rfl ?_
  refine t_al 5 X dL_law_1701 rfl rfl ?_
  refine g_callV (st := []) (q := sv + 20) (av := []) (x := F_X7_thrown (sv + 20)) (T := fun _ _ => False) X hT htr rfl hR3.ob (M_X7_thrown (sv + 20)) lk_X7_thrown im_X7_thrown se_X7_thrown (qW_at 1440 (by decide +kernel) rfl) rfl (by rw [hR]; exact ⟨Nat.le_of_ble_eq_true rfl, Nat.le_of_ble_eq_true rfl⟩) (by exact Nat.le_of_ble_eq_true rfl) (by rw [hR]; exact ⟨by show _ ≤ 601024; omega, by show _ ≤ 7293034; omega⟩) dL_law_1702 ?_
  unfold qwp
  rw [th_val hR3, h45]
  show GG k _ (.int (I kk) :: []) m3 _ _ _
  refine g_iload 1 X dL_law_1705 rfl ?_
  refine t_ceqT (tgt := 1712) X dL_law_1707 (by decide) rfl ?_
  refine g_iload 1 X dL_law_1712 rfl ?_
  have hI : LINV sv (t + 1) m3 := ⟨G', S', hC.fm hF, hs, hR3, (hF.ty _).trans h62⟩
  by_cases hkk : kk = 0
  case neg =>
    refine t_neT (tgt := 1729) X dL_law_1714 (by decide) (fun q => hkk ((I_inj (a := kk) (b := 0) (by omega) (by omega) (by omega) (by omega)).mp q)) ?_
    refine g_goto (tgt := 3230) X dL_law_1729 (by decide) ?_
    exact GG_sub [2, 3, 4, 5, 6] rfl (GG_widen (by omega) (by omega) (hnext m3 hI))
  subst hkk
  refine t_neF 1729 X dL_law_1714 (by decide) (by decide) ?_
  refine t_al 6 X dL_law_1717 rfl rfl ?_
  refine g_iconst (v := I 0) X dL_law_1718 rfl ?_
  refine g_lald (q := sv + 62) (n := 1) X ((hF.ty _).trans h62) (by intro q; rcases q with q | q <;> exact absurd q (by decide)) dL_law_1719 ?_
  rw [show (I 0).toNatClampNeg = 0 from by decide, hF.al _ (Or.inr (by omega)), hout rfl]
  refine g_iload 0 X dL_law_1720 rfl ?_
  refine g_i2l X dL_law_1722 ?_
  refine g_lcmp X dL_law_1723 ?_
  refine t_eqT (tgt := 1729) X dL_law_1724 (by decide) (q_cmp0.mpr rfl) ?_
  refine g_goto (tgt := 3230) X dL_law_1729 (by decide) ?_
  exact GG_sub [2, 3, 4, 5, 6] rfl (GG_widen (by omega) (by omega) (hnext m3 hI))
theorem dL_law_1732 : decode cL_law 1732 = .ok (.aload_n 1, 1) := by decide +kernel
theorem dL_law_1733 : decode cL_law 1733 = .ok (.aload_n 0, 1) := by decide +kernel
theorem dL_law_1734 : decode cL_law 1734 = .ok (.iload 4, 2) := by decide +kernel
theorem dL_law_1736 : decode cL_law 1736 = .ok (.iconst 1, 1) := by decide +kernel
theorem dL_law_1737 : decode cL_law 1737 = .ok (.iadd, 1) := by decide +kernel
theorem dL_law_1738 : decode cL_law 1738 = .ok (.iaload, 1) := by decide +kernel
theorem dL_law_1739 : decode cL_law 1739 = .ok (.aload_n 3, 1) := by decide +kernel
theorem dL_law_1740 : decode cL_law 1740 = .ok (.invokestatic 227, 3) := by decide +kernel
theorem dL_law_1743 : decode cL_law 1743 = .ok (.istore 5, 2) := by decide +kernel
theorem dL_law_1745 : decode cL_law 1745 = .ok (.aload_n 2, 1) := by decide +kernel
theorem dL_law_1746 : decode cL_law 1746 = .ok (.aload_n 0, 1) := by decide +kernel
theorem dL_law_1747 : decode cL_law 1747 = .ok (.iload 4, 2) := by decide +kernel
theorem dL_law_1749 : decode cL_law 1749 = .ok (.iconst 1, 1) := by decide +kernel
theorem dL_law_1750 : decode cL_law 1750 = .ok (.iadd, 1) := by decide +kernel
theorem dL_law_1751 : decode cL_law 1751 = .ok (.iaload, 1) := by decide +kernel
theorem dL_law_1752 : decode cL_law 1752 = .ok (.invokevirtual 229, 3) := by decide +kernel
theorem dL_law_1755 : decode cL_law 1755 = .ok (.istore 6, 2) := by decide +kernel
theorem dL_law_1757 : decode cL_law 1757 = .ok (.aload_n 2, 1) := by decide +kernel
theorem dL_law_1758 : decode cL_law 1758 = .ok (.invokevirtual 157, 3) := by decide +kernel
theorem dL_law_1761 : decode cL_law 1761 = .ok (.iload 5, 2) := by decide +kernel
theorem dL_law_1763 : decode cL_law 1763 = .ok (.if_icmp .eq 5, 3) := by decide +kernel
theorem dL_law_1768 : decode cL_law 1768 = .ok (.iload 5, 2) := by decide +kernel
theorem dL_law_1770 : decode cL_law 1770 = .ok (.ifCond .ne 15, 3) := by decide +kernel
theorem dL_law_1773 : decode cL_law 1773 = .ok (.aload_n 3, 1) := by decide +kernel
theorem dL_law_1774 : decode cL_law 1774 = .ok (.iconst 0, 1) := by decide +kernel
theorem dL_law_1775 : decode cL_law 1775 = .ok (.laload, 1) := by decide +kernel
theorem dL_law_1776 : decode cL_law 1776 = .ok (.iload 6, 2) := by decide +kernel
theorem dL_law_1778 : decode cL_law 1778 = .ok (.i2l, 1) := by decide +kernel
theorem dL_law_1779 : decode cL_law 1779 = .ok (.lcmp, 1) := by decide +kernel
theorem dL_law_1780 : decode cL_law 1780 = .ok (.ifCond .eq 5, 3) := by decide +kernel
theorem dL_law_1785 : decode cL_law 1785 = .ok (.goto 1445, 3) := by decide +kernel
set_option maxRecDepth 100000 in
set_option maxHeartbeats 3200000 in
theorem lc_21 {k : QC} {mm : QM} {a b sb L sv i : Nat} {xs : Nat → Int32} {t : Int} (hL : LX k sb L xs) (h : LINV sv t mm) (ht : t + 2 ≤ 600) (hi : i + 6 ≤ L) (ha : a + 20 ≤ 601024) (hb : b + 900 ≤ 7293034) (hnext : ∀ m3, LINV sv (t + 1) m3 → GG k (lenv sb sv i) [] m3 3230 (a + 20) (b + 900)) : GG k (lenv sb sv i) [] mm 1732 a b := by
  have X := hL.1
  have hR := hL.2.1
  have hN := hL.2.2.1
  have htr := hL.2.2.2.1
  have hT : TH k (fun _ _ => False) := TH_F
  refine t_al 2 X dL_law_1732 rfl rfl ?_
  refine t_arg (p0 := 1) (p4 := 0) hL (by decide) (by decide) hi rfl rfl dL_law_1733 dL_law_1734 dL_law_1736 dL_law_1737 dL_law_1738 ?_
  refine t_al 4 X dL_law_1739 rfl rfl ?_
  refine h_callS (rok (AWL sv t (F_X7_receiver (sv + 20) (xs (i + 1))) (fun _ => True))) (st := []) X hT htr (E_L_receiver sv (xs (i + 1))) lkh_receiver stl_receiver (qW_at 822 (by decide +kernel) rfl) rfl (by rw [hR]; exact ⟨Nat.le_of_ble_eq_true rfl, Nat.le_of_ble_eq_true rfl⟩) (by exact Nat.le_of_ble_eq_true rfl) (by rw [hR]; exact ⟨by show _ ≤ 601024; omega, by show _ ≤ 7293034; omega⟩) dL_law_1740 (by rfl) (W_receiver h ht (xs (i + 1))) (fun _ _ q => rok_x q) (fun v m2 q => ?_)
  obtain ⟨_, hv0, kk, w, G', S', S0, rfl, hk, hC, hs, h45, hR0, h62, hout, hZ, hy⟩ := q
  cases hv0
  refine g_istore (env' := [(5, .int (I kk)), (4, .int (I (i : Int))), (0, .ref sb), (1, .ref sv), (2, .ref (sv + 20)), (3, .ref (sv + 62))]) X dL_law_1743 (by rw [hN]; decide) rfl ?_
  refine t_al 4 X dL_law_1745 rfl rfl ?_
  refine t_arg (p0 := 2) (p4 := 1) hL (by decide) (by decide) hi rfl rfl dL_law_1746 dL_law_1747 dL_law_1749 dL_law_1750 dL_law_1751 ?_
  obtain ⟨m3, e3, hR3, hF⟩ := hy m2 hR0
  refine g_callV (st := []) (q := sv + 20) (av := [.int (xs (i + 1))]) (x := F_X7_receiver (sv + 20) (xs (i + 1))) (T := fun _ _ => False) X hT htr rfl hR0.ob (M_X7_receiver (sv + 20) (xs (i + 1))) lk_X7_receiver im_X7_receiver se_X7_receiver (qW_at 1673 (by decide +kernel) rfl) rfl (by rw [hR]; exact ⟨Nat.le_of_ble_eq_true rfl, Nat.le_of_ble_eq_true rfl⟩) (by exact Nat.le_of_ble_eq_true rfl) (by rw [hR]; exact ⟨by show _ ≤ 601024; omega, by show _ ≤ 7293034; omega⟩) dL_law_1752 ?_
  unfold qwp
  rw [e3]
  show GG k _ (.int w :: []) m3 _ _ _
  refine g_istore (env' := [(6, .int w), (5, .int (I kk)), (4, .int (I (i : Int))), (0, .ref sb), (1, .ref sv), (2, .ref (sv + 20)), (3, .ref (sv + 62))]) X dL_law_1755 (by rw [hN]; decide) rfl ?_
  refine t_al 5 X dL_law_1757 rfl rfl ?_
  refine g_callV (st := []) (q := sv + 20) (av := []) (x := F_X7_thrown (sv + 20)) (T := fun _ _ => False) X hT htr rfl hR3.ob (M_X7_thrown (sv + 20)) lk_X7_thrown im_X7_thrown se_X7_thrown (qW_at 1440 (by decide +kernel) rfl) rfl (by rw [hR]; exact ⟨Nat.le_of_ble_eq_true rfl, Nat.le_of_ble_eq_true rfl⟩) (by exact Nat.le_of_ble_eq_true rfl) (by rw [hR]; exact ⟨by show _ ≤ 601024; omega, by show _ ≤ 7293034; omega⟩) dL_law_1758 ?_
  unfold qwp
  rw [th_val hR3, h45]
  show GG k _ (.int (I kk) :: []) m3 _ _ _
  refine g_iload 1 X dL_law_1761 rfl ?_
  refine t_ceqT (tgt := 1768) X dL_law_1763 (by decide) rfl ?_
  refine g_iload 1 X dL_law_1768 rfl ?_
  have hI : LINV sv (t + 1) m3 := ⟨G', S', hC.fm hF, hs, hR3, (hF.ty _).trans h62⟩
  by_cases hkk : kk = 0
  case neg =>
    refine t_neT (tgt := 1785) X dL_law_1770 (by decide) (fun q => hkk ((I_inj (a := kk) (b := 0) (by omega) (by omega) (by omega) (by omega)).mp q)) ?_
    refine g_goto (tgt := 3230) X dL_law_1785 (by decide) ?_
    exact GG_sub [2, 3, 4, 5, 6] rfl (GG_widen (by omega) (by omega) (hnext m3 hI))
  subst hkk
  refine t_neF 1785 X dL_law_1770 (by decide) (by decide) ?_
  refine t_al 6 X dL_law_1773 rfl rfl ?_
  refine g_iconst (v := I 0) X dL_law_1774 rfl ?_
  refine g_lald (q := sv + 62) (n := 1) X ((hF.ty _).trans h62) (by intro q; rcases q with q | q <;> exact absurd q (by decide)) dL_law_1775 ?_
  rw [show (I 0).toNatClampNeg = 0 from by decide, hF.al _ (Or.inr (by omega)), hout rfl]
  refine g_iload 0 X dL_law_1776 rfl ?_
  refine g_i2l X dL_law_1778 ?_
  refine g_lcmp X dL_law_1779 ?_
  refine t_eqT (tgt := 1785) X dL_law_1780 (by decide) (q_cmp0.mpr rfl) ?_
  refine g_goto (tgt := 3230) X dL_law_1785 (by decide) ?_
  exact GG_sub [2, 3, 4, 5, 6] rfl (GG_widen (by omega) (by omega) (hnext m3 hI))
theorem dL_law_1788 : decode cL_law 1788 = .ok (.aload_n 1, 1) := by decide +kernel
theorem dL_law_1789 : decode cL_law 1789 = .ok (.aload_n 0, 1) := by decide +kernel
theorem dL_law_1790 : decode cL_law 1790 = .ok (.iload 4, 2) := by decide +kernel
theorem dL_law_1792 : decode cL_law 1792 = .ok (.iconst 1, 1) := by decide +kernel
theorem dL_law_1793 : decode cL_law 1793 = .ok (.iadd, 1) := by decide +kernel
theorem dL_law_1794 : decode cL_law 1794 = .ok (.iaload, 1) := by decide +kernel
theorem dL_law_1795 : decode cL_law 1795 = .ok (.aload_n 3, 1) := by decide +kernel
theorem dL_law_1796 : decode cL_law 1796 = .ok (.invokestatic 230, 3) := by decide +kernel
theorem dL_law_1799 : decode cL_law 1799 = .ok (.istore 5, 2) := by decide +kernel
theorem dL_law_1801 : decode cL_law 1801 = .ok (.aload_n 2, 1) := by decide +kernel
theorem dL_law_1802 : decode cL_law 1802 = .ok (.aload_n 0, 1) := by decide +kernel
theorem dL_law_1803 : decode cL_law 1803 = .ok (.iload 4, 2) := by decide +kernel
theorem dL_law_1805 : decode cL_law 1805 = .ok (.iconst 1, 1) := by decide +kernel
theorem dL_law_1806 : decode cL_law 1806 = .ok (.iadd, 1) := by decide +kernel
theorem dL_law_1807 : decode cL_law 1807 = .ok (.iaload, 1) := by decide +kernel
theorem dL_law_1808 : decode cL_law 1808 = .ok (.invokevirtual 232, 3) := by decide +kernel
theorem dL_law_1811 : decode cL_law 1811 = .ok (.istore 6, 2) := by decide +kernel
theorem dL_law_1813 : decode cL_law 1813 = .ok (.aload_n 2, 1) := by decide +kernel
theorem dL_law_1814 : decode cL_law 1814 = .ok (.invokevirtual 157, 3) := by decide +kernel
theorem dL_law_1817 : decode cL_law 1817 = .ok (.iload 5, 2) := by decide +kernel
theorem dL_law_1819 : decode cL_law 1819 = .ok (.if_icmp .eq 5, 3) := by decide +kernel
theorem dL_law_1824 : decode cL_law 1824 = .ok (.iload 5, 2) := by decide +kernel
theorem dL_law_1826 : decode cL_law 1826 = .ok (.ifCond .ne 15, 3) := by decide +kernel
theorem dL_law_1829 : decode cL_law 1829 = .ok (.aload_n 3, 1) := by decide +kernel
theorem dL_law_1830 : decode cL_law 1830 = .ok (.iconst 0, 1) := by decide +kernel
theorem dL_law_1831 : decode cL_law 1831 = .ok (.laload, 1) := by decide +kernel
theorem dL_law_1832 : decode cL_law 1832 = .ok (.iload 6, 2) := by decide +kernel
theorem dL_law_1834 : decode cL_law 1834 = .ok (.i2l, 1) := by decide +kernel
theorem dL_law_1835 : decode cL_law 1835 = .ok (.lcmp, 1) := by decide +kernel
theorem dL_law_1836 : decode cL_law 1836 = .ok (.ifCond .eq 5, 3) := by decide +kernel
theorem dL_law_1841 : decode cL_law 1841 = .ok (.goto 1389, 3) := by decide +kernel
set_option maxRecDepth 100000 in
set_option maxHeartbeats 3200000 in
theorem lc_22 {k : QC} {mm : QM} {a b sb L sv i : Nat} {xs : Nat → Int32} {t : Int} (hL : LX k sb L xs) (h : LINV sv t mm) (ht : t + 2 ≤ 600) (hi : i + 6 ≤ L) (ha : a + 20 ≤ 601024) (hb : b + 900 ≤ 7293034) (hnext : ∀ m3, LINV sv (t + 1) m3 → GG k (lenv sb sv i) [] m3 3230 (a + 20) (b + 900)) : GG k (lenv sb sv i) [] mm 1788 a b := by
  have X := hL.1
  have hR := hL.2.1
  have hN := hL.2.2.1
  have htr := hL.2.2.2.1
  have hT : TH k (fun _ _ => False) := TH_F
  refine t_al 2 X dL_law_1788 rfl rfl ?_
  obtain ⟨G0, S0, hC0, hs0, hRM0, h620⟩ := h
  obtain ⟨z0, l0, u0, e0⟩ := I_of (xs (i + 1))
  refine t_arg (p0 := 1) (p4 := 0) hL (by decide) (by decide) hi rfl rfl dL_law_1789 dL_law_1790 dL_law_1792 dL_law_1793 dL_law_1794 ?_
  rw [show xs (i + (1 : Int).toNat) = I z0 from e0]
  refine t_al 4 X dL_law_1795 rfl rfl ?_
  refine h_callS (rok (AWL sv t (F_X7_lineLength (sv + 20) (I z0)) (fun _ => True))) (st := []) X hT htr (E_L_lineLength sv G0 S0 t z0) lkh_lineLength stl_lineLength (qW_at 829 (by decide +kernel) rfl) rfl (by rw [hR]; exact ⟨Nat.le_of_ble_eq_true rfl, Nat.le_of_ble_eq_true rfl⟩) (by exact Nat.le_of_ble_eq_true rfl) (by rw [hR]; exact ⟨by show _ ≤ 601024; omega, by show _ ≤ 7293034; omega⟩) dL_law_1796 (by rfl) (W_lineLength hC0 hs0 hRM0 h620 ht l0 u0) (fun _ _ q => rok_x q) (fun v m2 q => ?_)
  obtain ⟨_, hv0, kk, w, G', S', S0, rfl, hk, hC, hs, h45, hR0, h62, hout, hZ, hy⟩ := q
  cases hv0
  refine g_istore (env' := [(5, .int (I kk)), (4, .int (I (i : Int))), (0, .ref sb), (1, .ref sv), (2, .ref (sv + 20)), (3, .ref (sv + 62))]) X dL_law_1799 (by rw [hN]; decide) rfl ?_
  refine t_al 4 X dL_law_1801 rfl rfl ?_
  refine t_arg (p0 := 2) (p4 := 1) hL (by decide) (by decide) hi rfl rfl dL_law_1802 dL_law_1803 dL_law_1805 dL_law_1806 dL_law_1807 ?_
  rw [show xs (i + (1 : Int).toNat) = I z0 from e0]
  obtain ⟨m3, e3, hR3, hF⟩ := hy m2 hR0
  refine g_callV (st := []) (q := sv + 20) (av := [.int (I z0)]) (x := F_X7_lineLength (sv + 20) (I z0)) (T := fun _ _ => False) X hT htr rfl hR0.ob (M_X7_lineLength (sv + 20) (I z0)) lk_X7_lineLength im_X7_lineLength se_X7_lineLength (qW_at 1677 (by decide +kernel) rfl) rfl (by rw [hR]; exact ⟨Nat.le_of_ble_eq_true rfl, Nat.le_of_ble_eq_true rfl⟩) (by exact Nat.le_of_ble_eq_true rfl) (by rw [hR]; exact ⟨by show _ ≤ 601024; omega, by show _ ≤ 7293034; omega⟩) dL_law_1808 ?_
  unfold qwp
  rw [e3]
  show GG k _ (.int w :: []) m3 _ _ _
  refine g_istore (env' := [(6, .int w), (5, .int (I kk)), (4, .int (I (i : Int))), (0, .ref sb), (1, .ref sv), (2, .ref (sv + 20)), (3, .ref (sv + 62))]) X dL_law_1811 (by rw [hN]; decide) rfl ?_
  refine t_al 5 X dL_law_1813 rfl rfl ?_
  refine g_callV (st := []) (q := sv + 20) (av := []) (x := F_X7_thrown (sv + 20)) (T := fun _ _ => False) X hT htr rfl hR3.ob (M_X7_thrown (sv + 20)) lk_X7_thrown im_X7_thrown se_X7_thrown (qW_at 1440 (by decide +kernel) rfl) rfl (by rw [hR]; exact ⟨Nat.le_of_ble_eq_true rfl, Nat.le_of_ble_eq_true rfl⟩) (by exact Nat.le_of_ble_eq_true rfl) (by rw [hR]; exact ⟨by show _ ≤ 601024; omega, by show _ ≤ 7293034; omega⟩) dL_law_1814 ?_
  unfold qwp
  rw [th_val hR3, h45]
  show GG k _ (.int (I kk) :: []) m3 _ _ _
  refine g_iload 1 X dL_law_1817 rfl ?_
  refine t_ceqT (tgt := 1824) X dL_law_1819 (by decide) rfl ?_
  refine g_iload 1 X dL_law_1824 rfl ?_
  have hI : LINV sv (t + 1) m3 := ⟨G', S', hC.fm hF, hs, hR3, (hF.ty _).trans h62⟩
  by_cases hkk : kk = 0
  case neg =>
    refine t_neT (tgt := 1841) X dL_law_1826 (by decide) (fun q => hkk ((I_inj (a := kk) (b := 0) (by omega) (by omega) (by omega) (by omega)).mp q)) ?_
    refine g_goto (tgt := 3230) X dL_law_1841 (by decide) ?_
    exact GG_sub [2, 3, 4, 5, 6] rfl (GG_widen (by omega) (by omega) (hnext m3 hI))
  subst hkk
  refine t_neF 1841 X dL_law_1826 (by decide) (by decide) ?_
  refine t_al 6 X dL_law_1829 rfl rfl ?_
  refine g_iconst (v := I 0) X dL_law_1830 rfl ?_
  refine g_lald (q := sv + 62) (n := 1) X ((hF.ty _).trans h62) (by intro q; rcases q with q | q <;> exact absurd q (by decide)) dL_law_1831 ?_
  rw [show (I 0).toNatClampNeg = 0 from by decide, hF.al _ (Or.inr (by omega)), hout rfl]
  refine g_iload 0 X dL_law_1832 rfl ?_
  refine g_i2l X dL_law_1834 ?_
  refine g_lcmp X dL_law_1835 ?_
  refine t_eqT (tgt := 1841) X dL_law_1836 (by decide) (q_cmp0.mpr rfl) ?_
  refine g_goto (tgt := 3230) X dL_law_1841 (by decide) ?_
  exact GG_sub [2, 3, 4, 5, 6] rfl (GG_widen (by omega) (by omega) (hnext m3 hI))
theorem dL_law_1844 : decode cL_law 1844 = .ok (.aload_n 1, 1) := by decide +kernel
theorem dL_law_1845 : decode cL_law 1845 = .ok (.aload_n 0, 1) := by decide +kernel
theorem dL_law_1846 : decode cL_law 1846 = .ok (.iload 4, 2) := by decide +kernel
theorem dL_law_1848 : decode cL_law 1848 = .ok (.iconst 1, 1) := by decide +kernel
theorem dL_law_1849 : decode cL_law 1849 = .ok (.iadd, 1) := by decide +kernel
theorem dL_law_1850 : decode cL_law 1850 = .ok (.iaload, 1) := by decide +kernel
theorem dL_law_1851 : decode cL_law 1851 = .ok (.aload_n 0, 1) := by decide +kernel
theorem dL_law_1852 : decode cL_law 1852 = .ok (.iload 4, 2) := by decide +kernel
theorem dL_law_1854 : decode cL_law 1854 = .ok (.iconst 2, 1) := by decide +kernel
theorem dL_law_1855 : decode cL_law 1855 = .ok (.iadd, 1) := by decide +kernel
theorem dL_law_1856 : decode cL_law 1856 = .ok (.iaload, 1) := by decide +kernel
theorem dL_law_1857 : decode cL_law 1857 = .ok (.aload_n 3, 1) := by decide +kernel
theorem dL_law_1858 : decode cL_law 1858 = .ok (.invokestatic 233, 3) := by decide +kernel
theorem dL_law_1861 : decode cL_law 1861 = .ok (.istore 5, 2) := by decide +kernel
theorem dL_law_1863 : decode cL_law 1863 = .ok (.aload_n 2, 1) := by decide +kernel
theorem dL_law_1864 : decode cL_law 1864 = .ok (.aload_n 0, 1) := by decide +kernel
theorem dL_law_1865 : decode cL_law 1865 = .ok (.iload 4, 2) := by decide +kernel
theorem dL_law_1867 : decode cL_law 1867 = .ok (.iconst 1, 1) := by decide +kernel
theorem dL_law_1868 : decode cL_law 1868 = .ok (.iadd, 1) := by decide +kernel
theorem dL_law_1869 : decode cL_law 1869 = .ok (.iaload, 1) := by decide +kernel
theorem dL_law_1870 : decode cL_law 1870 = .ok (.aload_n 0, 1) := by decide +kernel
theorem dL_law_1871 : decode cL_law 1871 = .ok (.iload 4, 2) := by decide +kernel
theorem dL_law_1873 : decode cL_law 1873 = .ok (.iconst 2, 1) := by decide +kernel
theorem dL_law_1874 : decode cL_law 1874 = .ok (.iadd, 1) := by decide +kernel
theorem dL_law_1875 : decode cL_law 1875 = .ok (.iaload, 1) := by decide +kernel
theorem dL_law_1876 : decode cL_law 1876 = .ok (.invokevirtual 235, 3) := by decide +kernel
theorem dL_law_1879 : decode cL_law 1879 = .ok (.istore 6, 2) := by decide +kernel
theorem dL_law_1881 : decode cL_law 1881 = .ok (.aload_n 2, 1) := by decide +kernel
theorem dL_law_1882 : decode cL_law 1882 = .ok (.invokevirtual 157, 3) := by decide +kernel
theorem dL_law_1885 : decode cL_law 1885 = .ok (.iload 5, 2) := by decide +kernel
theorem dL_law_1887 : decode cL_law 1887 = .ok (.if_icmp .eq 5, 3) := by decide +kernel
theorem dL_law_1892 : decode cL_law 1892 = .ok (.iload 5, 2) := by decide +kernel
theorem dL_law_1894 : decode cL_law 1894 = .ok (.ifCond .ne 15, 3) := by decide +kernel
theorem dL_law_1897 : decode cL_law 1897 = .ok (.aload_n 3, 1) := by decide +kernel
theorem dL_law_1898 : decode cL_law 1898 = .ok (.iconst 0, 1) := by decide +kernel
theorem dL_law_1899 : decode cL_law 1899 = .ok (.laload, 1) := by decide +kernel
theorem dL_law_1900 : decode cL_law 1900 = .ok (.iload 6, 2) := by decide +kernel
theorem dL_law_1902 : decode cL_law 1902 = .ok (.i2l, 1) := by decide +kernel
theorem dL_law_1903 : decode cL_law 1903 = .ok (.lcmp, 1) := by decide +kernel
theorem dL_law_1904 : decode cL_law 1904 = .ok (.ifCond .eq 5, 3) := by decide +kernel
theorem dL_law_1909 : decode cL_law 1909 = .ok (.goto 1321, 3) := by decide +kernel
set_option maxRecDepth 100000 in
set_option maxHeartbeats 3200000 in
theorem lc_23 {k : QC} {mm : QM} {a b sb L sv i : Nat} {xs : Nat → Int32} {t : Int} (hL : LX k sb L xs) (h : LINV sv t mm) (ht : t + 2 ≤ 600) (hi : i + 6 ≤ L) (ha : a + 20 ≤ 601024) (hb : b + 900 ≤ 7293034) (hnext : ∀ m3, LINV sv (t + 1) m3 → GG k (lenv sb sv i) [] m3 3230 (a + 20) (b + 900)) : GG k (lenv sb sv i) [] mm 1844 a b := by
  have X := hL.1
  have hR := hL.2.1
  have hN := hL.2.2.1
  have htr := hL.2.2.2.1
  have hT : TH k (fun _ _ => False) := TH_F
  refine t_al 2 X dL_law_1844 rfl rfl ?_
  obtain ⟨G0, S0, hC0, hs0, hRM0, h620⟩ := h
  obtain ⟨z0, l0, u0, e0⟩ := I_of (xs (i + 1))
  obtain ⟨z1, l1, u1, e1⟩ := I_of (xs (i + 2))
  refine t_arg (p0 := 1) (p4 := 0) hL (by decide) (by decide) hi rfl rfl dL_law_1845 dL_law_1846 dL_law_1848 dL_law_1849 dL_law_1850 ?_
  refine t_arg (p0 := 1) (p4 := 0) hL (by decide) (by decide) hi rfl rfl dL_law_1851 dL_law_1852 dL_law_1854 dL_law_1855 dL_law_1856 ?_
  rw [show xs (i + (1 : Int).toNat) = I z0 from e0, show xs (i + (2 : Int).toNat) = I z1 from e1]
  refine t_al 4 X dL_law_1857 rfl rfl ?_
  refine h_callS (rok (AWL sv t (F_X7_lineChar (sv + 20) (I z0) (I z1)) (fun _ => True))) (st := []) X hT htr (E_L_lineChar sv G0 S0 t z0 z1) lkh_lineChar stl_lineChar (qW_at 1054 (by decide +kernel) rfl) rfl (by rw [hR]; exact ⟨Nat.le_of_ble_eq_true rfl, Nat.le_of_ble_eq_true rfl⟩) (by exact Nat.le_of_ble_eq_true rfl) (by rw [hR]; exact ⟨by show _ ≤ 601024; omega, by show _ ≤ 7293034; omega⟩) dL_law_1858 (by rfl) (W_lineChar hC0 hs0 hRM0 h620 ht l0 u0 l1 u1) (fun _ _ q => rok_x q) (fun v m2 q => ?_)
  obtain ⟨_, hv0, kk, w, G', S', S0, rfl, hk, hC, hs, h45, hR0, h62, hout, hZ, hy⟩ := q
  cases hv0
  refine g_istore (env' := [(5, .int (I kk)), (4, .int (I (i : Int))), (0, .ref sb), (1, .ref sv), (2, .ref (sv + 20)), (3, .ref (sv + 62))]) X dL_law_1861 (by rw [hN]; decide) rfl ?_
  refine t_al 4 X dL_law_1863 rfl rfl ?_
  refine t_arg (p0 := 2) (p4 := 1) hL (by decide) (by decide) hi rfl rfl dL_law_1864 dL_law_1865 dL_law_1867 dL_law_1868 dL_law_1869 ?_
  refine t_arg (p0 := 2) (p4 := 1) hL (by decide) (by decide) hi rfl rfl dL_law_1870 dL_law_1871 dL_law_1873 dL_law_1874 dL_law_1875 ?_
  rw [show xs (i + (1 : Int).toNat) = I z0 from e0, show xs (i + (2 : Int).toNat) = I z1 from e1]
  obtain ⟨m3, e3, hR3, hF⟩ := hy m2 hR0
  refine g_callV (st := []) (q := sv + 20) (av := [.int (I z0), .int (I z1)]) (x := F_X7_lineChar (sv + 20) (I z0) (I z1)) (T := fun _ _ => False) X hT htr rfl hR0.ob (M_X7_lineChar (sv + 20) (I z0) (I z1)) lk_X7_lineChar im_X7_lineChar se_X7_lineChar (qW_at 1706 (by decide +kernel) rfl) rfl (by rw [hR]; exact ⟨Nat.le_of_ble_eq_true rfl, Nat.le_of_ble_eq_true rfl⟩) (by exact Nat.le_of_ble_eq_true rfl) (by rw [hR]; exact ⟨by show _ ≤ 601024; omega, by show _ ≤ 7293034; omega⟩) dL_law_1876 ?_
  unfold qwp
  rw [e3]
  show GG k _ (.int w :: []) m3 _ _ _
  refine g_istore (env' := [(6, .int w), (5, .int (I kk)), (4, .int (I (i : Int))), (0, .ref sb), (1, .ref sv), (2, .ref (sv + 20)), (3, .ref (sv + 62))]) X dL_law_1879 (by rw [hN]; decide) rfl ?_
  refine t_al 5 X dL_law_1881 rfl rfl ?_
  refine g_callV (st := []) (q := sv + 20) (av := []) (x := F_X7_thrown (sv + 20)) (T := fun _ _ => False) X hT htr rfl hR3.ob (M_X7_thrown (sv + 20)) lk_X7_thrown im_X7_thrown se_X7_thrown (qW_at 1440 (by decide +kernel) rfl) rfl (by rw [hR]; exact ⟨Nat.le_of_ble_eq_true rfl, Nat.le_of_ble_eq_true rfl⟩) (by exact Nat.le_of_ble_eq_true rfl) (by rw [hR]; exact ⟨by show _ ≤ 601024; omega, by show _ ≤ 7293034; omega⟩) dL_law_1882 ?_
  unfold qwp
  rw [th_val hR3, h45]
  show GG k _ (.int (I kk) :: []) m3 _ _ _
  refine g_iload 1 X dL_law_1885 rfl ?_
  refine t_ceqT (tgt := 1892) X dL_law_1887 (by decide) rfl ?_
  refine g_iload 1 X dL_law_1892 rfl ?_
  have hI : LINV sv (t + 1) m3 := ⟨G', S', hC.fm hF, hs, hR3, (hF.ty _).trans h62⟩
  by_cases hkk : kk = 0
  case neg =>
    refine t_neT (tgt := 1909) X dL_law_1894 (by decide) (fun q => hkk ((I_inj (a := kk) (b := 0) (by omega) (by omega) (by omega) (by omega)).mp q)) ?_
    refine g_goto (tgt := 3230) X dL_law_1909 (by decide) ?_
    exact GG_sub [2, 3, 4, 5, 6] rfl (GG_widen (by omega) (by omega) (hnext m3 hI))
  subst hkk
  refine t_neF 1909 X dL_law_1894 (by decide) (by decide) ?_
  refine t_al 6 X dL_law_1897 rfl rfl ?_
  refine g_iconst (v := I 0) X dL_law_1898 rfl ?_
  refine g_lald (q := sv + 62) (n := 1) X ((hF.ty _).trans h62) (by intro q; rcases q with q | q <;> exact absurd q (by decide)) dL_law_1899 ?_
  rw [show (I 0).toNatClampNeg = 0 from by decide, hF.al _ (Or.inr (by omega)), hout rfl]
  refine g_iload 0 X dL_law_1900 rfl ?_
  refine g_i2l X dL_law_1902 ?_
  refine g_lcmp X dL_law_1903 ?_
  refine t_eqT (tgt := 1909) X dL_law_1904 (by decide) (q_cmp0.mpr rfl) ?_
  refine g_goto (tgt := 3230) X dL_law_1909 (by decide) ?_
  exact GG_sub [2, 3, 4, 5, 6] rfl (GG_widen (by omega) (by omega) (hnext m3 hI))
