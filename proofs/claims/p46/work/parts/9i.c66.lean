/-! lineLength, lineChar -/
theorem FB.grow {m m' : QM} (h : FB (qtop m) m m') : GROW m m' :=
  ⟨h.1, fun b hb => (h.2 b hb).1, fun f b hb => (h.2 b hb).2.1 f, fun f b hb => (h.2 b hb).2.2.1 f, fun f b hb => (h.2 b hb).2.2.2.1 f, fun b hb => (h.2 b hb).2.2.2.2.1, fun b hb => (h.2 b hb).2.2.2.2.2.1, fun b hb => (h.2 b hb).2.2.2.2.2.2⟩
theorem CR.mfl {sv : Nat} {G : GM} {S : MS} {m : QM} {t k : Int} (h : CR sv G S m) (hw : WR t S) (ht : t ≤ 600) (g : gK S k = true) : MF m (ag G k) (am G (ma S 34 k)) (av G k) (ma S 31 k) (ma S 32 k) (ma S 33 k) (ma S 34 k) (ma S 36 k) (ma S 38 k) := by
  have g1 : 0 ≤ k ∧ k < mf S 29 := of_decide_eq_true g
  have hg := h.mg k g1.1 g1.2
  have hs := hw.ms g1.1 g1.2
  have hn := hw.nn
  have hm := h.mt _ hs.2.2.2.1.1 hs.2.2.2.1.2
  have e := hm.hi
  exact ⟨⟨hg.hi, by omega, hg.vhi⟩, hg.ty, hm.ty, hg.vty, hg.f0, hg.f1, hg.f2, hg.f3, hg.f4, hg.f7, hm.f0, hg.v0, ⟨hs.1, hs.2.1, hs.2.2.1, ⟨hs.2.2.2.1.1, by omega⟩, ⟨hs.2.2.2.2.2.1.1, by omega⟩, hs.2.2.2.2.2.2.2.1⟩⟩
theorem lineL_le (S : MS) (k : Int) : (lineL S k).length ≤ 34 := by
  have e := lineL_len S k
  have l1 := KW_len (ma S 31 k)
  have l2 := dg_len (ma S 36 k)
  have l3 : (tailL S k).length ≤ 10 := by
    unfold tailL
    split
    · have := AW_len (ma S 38 k)
      simp only [List.length_cons]; omega
    · show 0 ≤ 10; omega
  omega
theorem lk_X6_lineLength : LK yX6_lineLength cX6_lineLength 2 (some .int) 1 := ⟨(qW_at 650 (by decide +kernel) rfl), (qW_at 29 (by decide +kernel) rfl), by decide, by decide, by decide +kernel⟩
theorem im_X6_lineLength : Cond.instanceMethod yX6_lineLength ∈ qW := (qW_at 648 (by decide +kernel) rfl)
theorem dX6_lineLength_0 : decode cX6_lineLength 0 = .ok (.aload_n 0, 1) := by decide +kernel
theorem dX6_lineLength_1 : decode cX6_lineLength 1 = .ok (.iload_n 1, 1) := by decide +kernel
theorem dX6_lineLength_2 : decode cX6_lineLength 2 = .ok (.invokevirtual 186, 3) := by decide +kernel
theorem dX6_lineLength_5 : decode cX6_lineLength 5 = .ok (.invokestatic 251, 3) := by decide +kernel
theorem dX6_lineLength_8 : decode cX6_lineLength 8 = .ok (.invokevirtual 255, 3) := by decide +kernel
theorem dX6_lineLength_11 : decode cX6_lineLength 11 = .ok (.ireturn, 1) := by decide +kernel
set_option maxRecDepth 100000 in
set_option maxHeartbeats 1600000 in
theorem E_X6_lineLength (sv : Nat) (G : GM) (S : MS) (t kk : Int) : ME yX6_lineLength cX6_lineLength 2 (some .int) 7 155 13 366 (fun DA => [.ref sv, .int (I kk)]) (fun DA mm R => CR sv G S mm ∧ SI t S ∧ t ≤ 600 ∧ (-2147483648 ≤ kk ∧ kk < 2147483648) ∧ (if gK S kk = true then ∀ m', GROW mm m' → R (.ok (some (.int (I (((lineL S kk).length : Nat) : Int))))) m' else R (.error 1) mm)) := by
  refine ME_of (env0 := fun DA => [(0, .ref sv), (1, .int (I kk))]) (by decide) (fun DA => by exact Nat.le_of_ble_eq_true rfl) (fun DA => by rfl) (fun k mm R X C hR hN hr hname hP => ?_)
  have X : CX k cX6_lineLength RX6 := X
  have hT := TH_ofE C
  have htr := C.2.2.2.1
  have ho : HO k := C.2.2.2.2
  obtain ⟨hC, hs, ht, ⟨kl, kh⟩, h⟩ := hP
  refine t_al 0 X dX6_lineLength_0 rfl rfl ?_
  refine g_iload_n 1 X dX6_lineLength_1 rfl rfl ?_
  refine g_callV (st := []) (q := sv) (av := [.int (I kk)]) (x := F_X6_messageNumbered sv (I kk)) X hT htr rfl hC.cf.ty (M_X6_messageNumbered sv (I kk)) lk_X6_messageNumbered im_X6_messageNumbered se_X6_messageNumbered ml_X6_186 rfl (by rw [hR]; exact ⟨Nat.le_of_ble_eq_true rfl, Nat.le_of_ble_eq_true rfl⟩) (by exact Nat.le_of_ble_eq_true rfl) (by rw [hR]; exact ⟨Nat.le_of_ble_eq_true rfl, Nat.le_of_ble_eq_true rfl⟩) dX6_lineLength_2 ?_
  unfold qwp
  rw [c_messageNumbered hC hs.wr kl kh]
  by_cases g : gK S kk = true
  case neg => rw [if_neg g] at h ⊢; exact h
  rw [if_pos g] at h ⊢
  have hMF := hC.mfl hs.wr ht g
  have hr34 := hMF.2.2.2.2.2.2.2.2.2.2.2.2.2.2.2.1
  show GG k _ [.ref (ag G kk)] mm _ _ _
  refine e_callS (st := []) (rok fun v m1 => v = some (.ref (qtop mm)) ∧ ∃ a n, BD (qtop mm) m1 (qtop mm) (lineL S kk) a n ∧ FB (qtop mm) mm m1) X hT htr (E_X6_lineOf (ag G kk) (am G (ma S 34 kk)) (av G kk) (ma S 31 kk) (ma S 32 kk) (ma S 33 kk) (ma S 34 kk) (ma S 36 kk) (ma S 38 kk)) lk_X6_lineOf st_X6_lineOf (qW_at 651 (by decide +kernel) rfl) rfl (by rw [hR]; exact ⟨Nat.le_of_ble_eq_true rfl, Nat.le_of_ble_eq_true rfl⟩) (by exact Nat.le_of_ble_eq_true rfl) (by rw [hR]; exact ⟨Nat.le_of_ble_eq_true rfl, Nat.le_of_ble_eq_true rfl⟩) dX6_lineLength_5 (by rfl) (⟨hMF, fun m' a n g1 g2 => ⟨_, rfl, rfl, a, n, lnA_line hr34 ▸ g1, g2⟩⟩) (fun _ _ h => rok_x h) (fun v m9 h => ?_)
  obtain ⟨_, hv0, rfl, a1, n1, hB, hF⟩ := h
  cases hv0
  refine e_callV (st := []) (rok fun v m1 => v = some (.int (I (((lineL S kk).length : Nat) : Int))) ∧ m9 = m1) (C := RJ4) X hT htr (E_J4_length_8abf5 (qtop mm) (((lineL S kk).length : Nat) : Int)) lk_J4_length_8abf5 im_J4_length_8abf5 (qW_at 864 (by decide +kernel) rfl) (qW_at 862 (by decide +kernel) rfl) (fun H hH => t_recv X rfl hB.2.1 hH) rfl rfl (by rw [hR]; exact ⟨Nat.le_of_ble_eq_true rfl, Nat.le_of_ble_eq_true rfl⟩) (by exact Nat.le_of_ble_eq_true rfl) (by rw [hR]; exact ⟨Nat.le_of_ble_eq_true rfl, Nat.le_of_ble_eq_true rfl⟩) dX6_lineLength_8 (by rfl) (⟨hB.2.1, hB.2.2.2.2.1, _, rfl, rfl, rfl⟩) (fun _ _ h => rok_x h) (fun v m1 h => ?_)
  obtain ⟨_, hv0, rfl, rfl⟩ := h
  cases hv0
  exact e_iret X C hr rfl dX6_lineLength_11 (by rw [hR]; exact Nat.le_of_ble_eq_true rfl) (by rw [hR]; exact Nat.le_of_ble_eq_true rfl) (h _ hF.grow)
theorem lk_X6_lineChar : LK yX6_lineChar cX6_lineChar 4 (some .char) 2 := ⟨(qW_at 875 (by decide +kernel) rfl), (qW_at 29 (by decide +kernel) rfl), by decide, by decide, by decide +kernel⟩
theorem im_X6_lineChar : Cond.instanceMethod yX6_lineChar ∈ qW := (qW_at 873 (by decide +kernel) rfl)
theorem dX6_lineChar_0 : decode cX6_lineChar 0 = .ok (.aload_n 0, 1) := by decide +kernel
theorem dX6_lineChar_1 : decode cX6_lineChar 1 = .ok (.iload_n 1, 1) := by decide +kernel
theorem dX6_lineChar_2 : decode cX6_lineChar 2 = .ok (.invokevirtual 186, 3) := by decide +kernel
theorem dX6_lineChar_5 : decode cX6_lineChar 5 = .ok (.invokestatic 251, 3) := by decide +kernel
theorem dX6_lineChar_8 : decode cX6_lineChar 8 = .ok (.astore_n 3, 1) := by decide +kernel
theorem dX6_lineChar_9 : decode cX6_lineChar 9 = .ok (.iload_n 2, 1) := by decide +kernel
theorem dX6_lineChar_10 : decode cX6_lineChar 10 = .ok (.aload_n 3, 1) := by decide +kernel
theorem dX6_lineChar_11 : decode cX6_lineChar 11 = .ok (.invokevirtual 255, 3) := by decide +kernel
theorem dX6_lineChar_14 : decode cX6_lineChar 14 = .ok (.invokestatic 261, 3) := by decide +kernel
theorem dX6_lineChar_17 : decode cX6_lineChar 17 = .ok (.aload_n 3, 1) := by decide +kernel
theorem dX6_lineChar_18 : decode cX6_lineChar 18 = .ok (.iload_n 2, 1) := by decide +kernel
theorem dX6_lineChar_19 : decode cX6_lineChar 19 = .ok (.invokevirtual 265, 3) := by decide +kernel
theorem dX6_lineChar_22 : decode cX6_lineChar 22 = .ok (.ireturn, 1) := by decide +kernel
set_option maxRecDepth 100000 in
set_option maxHeartbeats 1600000 in
theorem E_X6_lineChar (sv : Nat) (G : GM) (S : MS) (t kk pl : Int) : ME yX6_lineChar cX6_lineChar 4 (some .char) 7 155 14 372 (fun DA => [.ref sv, .int (I kk), .int (I pl)]) (fun DA mm R => CR sv G S mm ∧ SI t S ∧ t ≤ 600 ∧ (-2147483648 ≤ kk ∧ kk < 2147483648) ∧ (-2147483648 ≤ pl ∧ pl < 2147483648) ∧ (if gK S kk = true then ∀ m', GROW mm m' → if decide (0 ≤ pl ∧ pl < (lineL S kk).length) = true then R (.ok (some (.int (I ((lineL S kk).getD pl.toNat 0))))) m' else R (.error 1) m' else R (.error 1) mm)) := by
  refine ME_of (env0 := fun DA => [(0, .ref sv), (1, .int (I kk)), (2, .int (I pl))]) (by decide) (fun DA => by exact Nat.le_of_ble_eq_true rfl) (fun DA => by rfl) (fun k mm R X C hR hN hr hname hP => ?_)
  have X : CX k cX6_lineChar RX6 := X
  have hT := TH_ofE C
  have htr := C.2.2.2.1
  have ho : HO k := C.2.2.2.2
  obtain ⟨hC, hs, ht, ⟨kl, kh⟩, ⟨pll, plh⟩, h⟩ := hP
  refine t_al 0 X dX6_lineChar_0 rfl rfl ?_
  refine g_iload_n 1 X dX6_lineChar_1 rfl rfl ?_
  refine g_callV (st := []) (q := sv) (av := [.int (I kk)]) (x := F_X6_messageNumbered sv (I kk)) X hT htr rfl hC.cf.ty (M_X6_messageNumbered sv (I kk)) lk_X6_messageNumbered im_X6_messageNumbered se_X6_messageNumbered ml_X6_186 rfl (by rw [hR]; exact ⟨Nat.le_of_ble_eq_true rfl, Nat.le_of_ble_eq_true rfl⟩) (by exact Nat.le_of_ble_eq_true rfl) (by rw [hR]; exact ⟨Nat.le_of_ble_eq_true rfl, Nat.le_of_ble_eq_true rfl⟩) dX6_lineChar_2 ?_
  unfold qwp
  rw [c_messageNumbered hC hs.wr kl kh]
  by_cases g : gK S kk = true
  case neg => rw [if_neg g] at h ⊢; exact h
  rw [if_pos g] at h ⊢
  have hMF := hC.mfl hs.wr ht g
  have hr34 := hMF.2.2.2.2.2.2.2.2.2.2.2.2.2.2.2.1
  show GG k _ [.ref (ag G kk)] mm _ _ _
  refine e_callS (st := []) (rok fun v m1 => v = some (.ref (qtop mm)) ∧ ∃ a n, BD (qtop mm) m1 (qtop mm) (lineL S kk) a n ∧ FB (qtop mm) mm m1) X hT htr (E_X6_lineOf (ag G kk) (am G (ma S 34 kk)) (av G kk) (ma S 31 kk) (ma S 32 kk) (ma S 33 kk) (ma S 34 kk) (ma S 36 kk) (ma S 38 kk)) lk_X6_lineOf st_X6_lineOf (qW_at 651 (by decide +kernel) rfl) rfl (by rw [hR]; exact ⟨Nat.le_of_ble_eq_true rfl, Nat.le_of_ble_eq_true rfl⟩) (by exact Nat.le_of_ble_eq_true rfl) (by rw [hR]; exact ⟨Nat.le_of_ble_eq_true rfl, Nat.le_of_ble_eq_true rfl⟩) dX6_lineChar_5 (by rfl) (⟨hMF, fun m' a n g1 g2 => ⟨_, rfl, rfl, a, n, lnA_line hr34 ▸ g1, g2⟩⟩) (fun _ _ h => rok_x h) (fun v m9 h => ?_)
  obtain ⟨_, hv0, rfl, a1, n1, hB, hF⟩ := h
  cases hv0
  refine t_as (env' := [(3, .ref (qtop mm)), (0, .ref sv), (1, .int (I kk)), (2, .int (I pl))]) X dX6_lineChar_8 rfl (by rw [hN]; decide) rfl ?_
  refine g_iload_n 3 X dX6_lineChar_9 rfl rfl ?_
  refine t_al 0 X dX6_lineChar_10 rfl rfl ?_
  refine e_callV (st := [.int (I pl)]) (rok fun v m1 => v = some (.int (I (((lineL S kk).length : Nat) : Int))) ∧ m9 = m1) (C := RJ4) X hT htr (E_J4_length_8abf5 (qtop mm) (((lineL S kk).length : Nat) : Int)) lk_J4_length_8abf5 im_J4_length_8abf5 (qW_at 864 (by decide +kernel) rfl) (qW_at 862 (by decide +kernel) rfl) (fun H hH => t_recv X rfl hB.2.1 hH) rfl rfl (by rw [hR]; exact ⟨Nat.le_of_ble_eq_true rfl, Nat.le_of_ble_eq_true rfl⟩) (by exact Nat.le_of_ble_eq_true rfl) (by rw [hR]; exact ⟨Nat.le_of_ble_eq_true rfl, Nat.le_of_ble_eq_true rfl⟩) dX6_lineChar_11 (by rfl) (⟨hB.2.1, hB.2.2.2.2.1, _, rfl, rfl, rfl⟩) (fun _ _ h => rok_x h) (fun v m1 h => ?_)
  obtain ⟨_, hv0, rfl, rfl⟩ := h
  cases hv0
  have hle := lineL_le S kk
  have h := h _ hF.grow
  refine g_callS (st := []) (av := [.int (I pl), .int (I (((lineL S kk).length : Nat) : Int))]) (x := F_X6_needPlace (I pl) (I (((lineL S kk).length : Nat) : Int))) X hT htr (M_X6_needPlace (I pl) (I (((lineL S kk).length : Nat) : Int))) lk_X6_needPlace st_X6_needPlace ml_X6_261 rfl (by rw [hR]; exact ⟨Nat.le_of_ble_eq_true rfl, Nat.le_of_ble_eq_true rfl⟩) (by exact Nat.le_of_ble_eq_true rfl) (by rw [hR]; exact ⟨Nat.le_of_ble_eq_true rfl, Nat.le_of_ble_eq_true rfl⟩) dX6_lineChar_14 ?_
  unfold qwp
  rw [c_needPlace pll plh (by omega) (by omega)]
  by_cases gp : decide (0 ≤ pl ∧ pl < (lineL S kk).length) = true
  case neg => rw [if_neg gp] at h ⊢; exact h
  rw [if_pos gp] at h ⊢
  have gp := of_decide_eq_true gp
  obtain ⟨i, rfl⟩ := Int.eq_ofNat_of_zero_le gp.1
  show GG k _ [] m9 _ _ _
  refine t_al 0 X dX6_lineChar_17 rfl rfl ?_
  refine g_iload_n 3 X dX6_lineChar_18 rfl rfl ?_
  refine e_callV (st := []) (rok fun v m1 => v = some (.int (I ((lineL S kk).getD i 0))) ∧ m9 = m1) (C := RJ4) X hT htr (E_J4_charAt_5068e (qtop mm) (qtop mm) (lineL S kk) a1 n1 i) lk_J4_charAt_5068e im_J4_charAt_5068e (qW_at 878 (by decide +kernel) rfl) (qW_at 876 (by decide +kernel) rfl) (fun H hH => t_recv X rfl hB.2.1 hH) rfl rfl (by rw [hR]; exact ⟨Nat.le_of_ble_eq_true rfl, Nat.le_of_ble_eq_true rfl⟩) (by exact Nat.le_of_ble_eq_true rfl) (by rw [hR]; exact ⟨Nat.le_of_ble_eq_true rfl, Nat.le_of_ble_eq_true rfl⟩) dX6_lineChar_19 (by rfl) (⟨hB, by omega, _, rfl, rfl, rfl⟩) (fun _ _ h => rok_x h) (fun v m1 h => ?_)
  obtain ⟨_, hv0, rfl, rfl⟩ := h
  cases hv0
  have hc := hB.at (i := i) (by omega)
  exact e_iret X C hr (charN hc.1 hc.2) dX6_lineChar_22 (by rw [hR]; exact Nat.le_of_ble_eq_true rfl) (by rw [hR]; exact Nat.le_of_ble_eq_true rfl) (h)
