/-! the class's lines -/
theorem t_gi {k : QC} {cc : ByteArray} {own : String} {env : List (Nat × Value)} {st : List Value} {mm : QM} {pc a b : Nat} {c j i q : Nat} {C : String} {Tt : u_T} {N : Nat} {v : Int32} (X : CX k cc own) (hc : vwCl[c]? = some (C, Tt, N)) (hin : ∀ w ∈ u_ws C Tt N, w ∈ qW) (hj : j < N) (hl : Cond.fieldLink own i (Tt j).1 (Tt j).2.1 (Tt j).2.2.1 ∈ qW) (hk : qk c j = 0) (hdg : decode cc pc = .ok (.getfield i, 3)) (ht : qty mm q = (1, c, 0)) (hv : qfi mm (64 * c + j) q = v) (h : GG k env (.int v :: st) mm (pc + 3) a b) : GG k env (.ref q :: st) mm pc a b :=
  g_get X hc hin hj hl hdg ht (by unfold qfv; rw [if_pos hk, hv]) h
theorem t_gr {k : QC} {cc : ByteArray} {own : String} {env : List (Nat × Value)} {st : List Value} {mm : QM} {pc a b : Nat} {c j i q r : Nat} {C : String} {Tt : u_T} {N : Nat} (X : CX k cc own) (hc : vwCl[c]? = some (C, Tt, N)) (hin : ∀ w ∈ u_ws C Tt N, w ∈ qW) (hj : j < N) (hl : Cond.fieldLink own i (Tt j).1 (Tt j).2.1 (Tt j).2.2.1 ∈ qW) (hk : qk c j = 2) (hdg : decode cc pc = .ok (.getfield i, 3)) (ht : qty mm q = (1, c, 0)) (hv : qfr mm (64 * c + j) q = some r) (h : GG k env (.ref r :: st) mm (pc + 3) a b) : GG k env (.ref q :: st) mm pc a b :=
  g_get X hc hin hj hl hdg ht (v := .ref r) (by unfold qfv; rw [if_neg (by rw [hk]; decide), if_neg (by rw [hk]; decide), hv]; rfl) h
/-- a message, its meeting and its version, as far as a line shows them -/
def MF (m : QM) (g mt vr : Nat) (kd sn rc nr sq an : Int) : Prop :=
  (g < qtop m ∧ mt < qtop m ∧ vr < qtop m) ∧ qty m g = (1, 2, 0) ∧ qty m mt = (1, 1, 0) ∧ qty m vr = (1, 5, 0) ∧ qfi m 128 g = I kd ∧ qfr m 129 g = some mt ∧ qfi m 130 g = I sn ∧ qfi m 131 g = I rc ∧ qfr m 132 g = some vr ∧ (kd = 1 → qfi m 135 g = I an) ∧ qfi m 64 mt = I nr ∧ qfi m 320 vr = I sq ∧ ((0 ≤ kd ∧ kd ≤ 2) ∧ (0 ≤ sn ∧ sn < 5) ∧ (0 ≤ rc ∧ rc < 5) ∧ (0 ≤ nr ∧ nr < 8) ∧ (0 ≤ sq ∧ sq < 1000) ∧ (0 ≤ an ∧ an ≤ 4))
theorem MF.fb {m m' : QM} {g mt vr : Nat} {kd sn rc nr sq an : Int} (h : MF m g mt vr kd sn rc nr sq an) (hF : FB (qtop m) m m') : MF m' g mt vr kd sn rc nr sq an := by
  obtain ⟨⟨h1, h2, h3⟩, h4, h5, h6, h7, h8, h9, h10, h11, h12, h13, h14, h15⟩ := h
  have t := hF.1
  have eg := hF.2 g h1
  have em := hF.2 mt h2
  have ev := hF.2 vr h3
  exact ⟨⟨by omega, by omega, by omega⟩, eg.1.trans h4, em.1.trans h5, ev.1.trans h6, (eg.2.1 _).trans h7, (eg.2.2.2.1 _).trans h8, (eg.2.1 _).trans h9, (eg.2.1 _).trans h10, (eg.2.2.2.1 _).trans h11, fun q => (eg.2.1 _).trans (h12 q), (em.2.1 _).trans h13, (ev.2.1 _).trans h14, h15⟩
/-- a line, in the order in which it is put together -/
def lnB (kd sn rc nr sq : Int) : List Int := ((((((([] ++ WL (kI kd)) ++ [32]) ++ [97 + sn]) ++ [97 + rc]) ++ [32]) ++ dg nr) ++ [32]) ++ dg sq
def lnA (kd sn rc nr sq an : Int) : List Int := if kd = 1 then (lnB kd sn rc nr sq ++ [32]) ++ WL (aI an) else lnB kd sn rc nr sq
theorem lnA_line {S : MS} {k : Int} (hn : 0 ≤ ma S 34 k ∧ ma S 34 k < 8) : lnA (ma S 31 k) (ma S 32 k) (ma S 33 k) (ma S 34 k) (ma S 36 k) (ma S 38 k) = lineL S k := by
  have e : dg (ma S 34 k) = [48 + ma S 34 k] := by unfold dg; rw [if_pos (by omega)]
  unfold lnA lnB lineL tailL
  rw [kI_W, aI_W, e]
  split <;> simp only [List.nil_append, List.append_assoc, List.cons_append, List.append_nil]
theorem lk_X6_lineOf : LK yX6_lineOf cX6_lineOf 2 (some (.object "java/lang/StringBuilder")) 1 := ⟨(qW_at 653 (by decide +kernel) rfl), (qW_at 29 (by decide +kernel) rfl), by decide, by decide, by decide +kernel⟩
theorem st_X6_lineOf : Cond.static yX6_lineOf ∈ qW := (qW_at 652 (by decide +kernel) rfl)
theorem dX6_lineOf_0 : decode cX6_lineOf 0 = .ok (.new 256, 3) := by decide +kernel
theorem dX6_lineOf_3 : decode cX6_lineOf 3 = .ok (.dup, 1) := by decide +kernel
theorem dX6_lineOf_4 : decode cX6_lineOf 4 = .ok (.invokespecial 427, 3) := by decide +kernel
theorem dX6_lineOf_7 : decode cX6_lineOf 7 = .ok (.astore_n 1, 1) := by decide +kernel
theorem dX6_lineOf_8 : decode cX6_lineOf 8 = .ok (.aload_n 1, 1) := by decide +kernel
theorem dX6_lineOf_9 : decode cX6_lineOf 9 = .ok (.aload_n 0, 1) := by decide +kernel
theorem dX6_lineOf_10 : decode cX6_lineOf 10 = .ok (.getfield 236, 3) := by decide +kernel
theorem dX6_lineOf_13 : decode cX6_lineOf 13 = .ok (.invokestatic 428, 3) := by decide +kernel
theorem dX6_lineOf_16 : decode cX6_lineOf 16 = .ok (.invokevirtual 432, 3) := by decide +kernel
theorem dX6_lineOf_19 : decode cX6_lineOf 19 = .ok (.pop, 1) := by decide +kernel
theorem dX6_lineOf_20 : decode cX6_lineOf 20 = .ok (.aload_n 1, 1) := by decide +kernel
theorem dX6_lineOf_21 : decode cX6_lineOf 21 = .ok (.bipush 32, 2) := by decide +kernel
theorem dX6_lineOf_23 : decode cX6_lineOf 23 = .ok (.invokevirtual 436, 3) := by decide +kernel
theorem dX6_lineOf_26 : decode cX6_lineOf 26 = .ok (.pop, 1) := by decide +kernel
theorem dX6_lineOf_27 : decode cX6_lineOf 27 = .ok (.aload_n 1, 1) := by decide +kernel
theorem dX6_lineOf_28 : decode cX6_lineOf 28 = .ok (.bipush 97, 2) := by decide +kernel
theorem dX6_lineOf_30 : decode cX6_lineOf 30 = .ok (.aload_n 0, 1) := by decide +kernel
theorem dX6_lineOf_31 : decode cX6_lineOf 31 = .ok (.getfield 378, 3) := by decide +kernel
theorem dX6_lineOf_34 : decode cX6_lineOf 34 = .ok (.iadd, 1) := by decide +kernel
theorem dX6_lineOf_35 : decode cX6_lineOf 35 = .ok (.i2c, 1) := by decide +kernel
theorem dX6_lineOf_36 : decode cX6_lineOf 36 = .ok (.invokevirtual 436, 3) := by decide +kernel
theorem dX6_lineOf_39 : decode cX6_lineOf 39 = .ok (.pop, 1) := by decide +kernel
theorem dX6_lineOf_40 : decode cX6_lineOf 40 = .ok (.aload_n 1, 1) := by decide +kernel
theorem dX6_lineOf_41 : decode cX6_lineOf 41 = .ok (.bipush 97, 2) := by decide +kernel
theorem dX6_lineOf_43 : decode cX6_lineOf 43 = .ok (.aload_n 0, 1) := by decide +kernel
theorem dX6_lineOf_44 : decode cX6_lineOf 44 = .ok (.getfield 248, 3) := by decide +kernel
theorem dX6_lineOf_47 : decode cX6_lineOf 47 = .ok (.iadd, 1) := by decide +kernel
theorem dX6_lineOf_48 : decode cX6_lineOf 48 = .ok (.i2c, 1) := by decide +kernel
theorem dX6_lineOf_49 : decode cX6_lineOf 49 = .ok (.invokevirtual 436, 3) := by decide +kernel
theorem dX6_lineOf_52 : decode cX6_lineOf 52 = .ok (.pop, 1) := by decide +kernel
theorem dX6_lineOf_53 : decode cX6_lineOf 53 = .ok (.aload_n 1, 1) := by decide +kernel
theorem dX6_lineOf_54 : decode cX6_lineOf 54 = .ok (.bipush 32, 2) := by decide +kernel
theorem dX6_lineOf_56 : decode cX6_lineOf 56 = .ok (.invokevirtual 436, 3) := by decide +kernel
theorem dX6_lineOf_59 : decode cX6_lineOf 59 = .ok (.pop, 1) := by decide +kernel
theorem dX6_lineOf_60 : decode cX6_lineOf 60 = .ok (.aload_n 1, 1) := by decide +kernel
theorem dX6_lineOf_61 : decode cX6_lineOf 61 = .ok (.aload_n 0, 1) := by decide +kernel
theorem dX6_lineOf_62 : decode cX6_lineOf 62 = .ok (.getfield 197, 3) := by decide +kernel
theorem dX6_lineOf_65 : decode cX6_lineOf 65 = .ok (.getfield 93, 3) := by decide +kernel
theorem dX6_lineOf_68 : decode cX6_lineOf 68 = .ok (.invokevirtual 439, 3) := by decide +kernel
theorem dX6_lineOf_71 : decode cX6_lineOf 71 = .ok (.pop, 1) := by decide +kernel
theorem dX6_lineOf_72 : decode cX6_lineOf 72 = .ok (.aload_n 1, 1) := by decide +kernel
theorem dX6_lineOf_73 : decode cX6_lineOf 73 = .ok (.bipush 32, 2) := by decide +kernel
theorem dX6_lineOf_75 : decode cX6_lineOf 75 = .ok (.invokevirtual 436, 3) := by decide +kernel
theorem dX6_lineOf_78 : decode cX6_lineOf 78 = .ok (.pop, 1) := by decide +kernel
theorem dX6_lineOf_79 : decode cX6_lineOf 79 = .ok (.aload_n 1, 1) := by decide +kernel
theorem dX6_lineOf_80 : decode cX6_lineOf 80 = .ok (.aload_n 0, 1) := by decide +kernel
theorem dX6_lineOf_81 : decode cX6_lineOf 81 = .ok (.getfield 381, 3) := by decide +kernel
theorem dX6_lineOf_84 : decode cX6_lineOf 84 = .ok (.getfield 275, 3) := by decide +kernel
theorem dX6_lineOf_87 : decode cX6_lineOf 87 = .ok (.invokevirtual 439, 3) := by decide +kernel
theorem dX6_lineOf_90 : decode cX6_lineOf 90 = .ok (.pop, 1) := by decide +kernel
theorem dX6_lineOf_91 : decode cX6_lineOf 91 = .ok (.aload_n 0, 1) := by decide +kernel
theorem dX6_lineOf_92 : decode cX6_lineOf 92 = .ok (.getfield 236, 3) := by decide +kernel
theorem dX6_lineOf_95 : decode cX6_lineOf 95 = .ok (.iconst 1, 1) := by decide +kernel
theorem dX6_lineOf_96 : decode cX6_lineOf 96 = .ok (.if_icmp .ne 22, 3) := by decide +kernel
theorem dX6_lineOf_99 : decode cX6_lineOf 99 = .ok (.aload_n 1, 1) := by decide +kernel
theorem dX6_lineOf_100 : decode cX6_lineOf 100 = .ok (.bipush 32, 2) := by decide +kernel
theorem dX6_lineOf_102 : decode cX6_lineOf 102 = .ok (.invokevirtual 436, 3) := by decide +kernel
theorem dX6_lineOf_105 : decode cX6_lineOf 105 = .ok (.pop, 1) := by decide +kernel
theorem dX6_lineOf_106 : decode cX6_lineOf 106 = .ok (.aload_n 1, 1) := by decide +kernel
theorem dX6_lineOf_107 : decode cX6_lineOf 107 = .ok (.aload_n 0, 1) := by decide +kernel
theorem dX6_lineOf_108 : decode cX6_lineOf 108 = .ok (.getfield 220, 3) := by decide +kernel
theorem dX6_lineOf_111 : decode cX6_lineOf 111 = .ok (.invokestatic 442, 3) := by decide +kernel
theorem dX6_lineOf_114 : decode cX6_lineOf 114 = .ok (.invokevirtual 432, 3) := by decide +kernel
theorem dX6_lineOf_117 : decode cX6_lineOf 117 = .ok (.pop, 1) := by decide +kernel
theorem dX6_lineOf_118 : decode cX6_lineOf 118 = .ok (.aload_n 1, 1) := by decide +kernel
theorem dX6_lineOf_119 : decode cX6_lineOf 119 = .ok (.areturn, 1) := by decide +kernel
set_option maxRecDepth 100000 in
set_option maxHeartbeats 3200000 in
theorem E_X6_lineOf (g mt vr : Nat) (kd sn rc nr sq an : Int) : ME yX6_lineOf cX6_lineOf 2 (some (.object "java/lang/StringBuilder")) 6 134 12 360 (fun DA => [.ref g]) (fun DA mm R => MF mm g mt vr kd sn rc nr sq an ∧ ∀ m' a n, BD (qtop mm) m' (qtop mm) (lnA kd sn rc nr sq an) a n → FB (qtop mm) mm m' → R (.ok (some (.ref (qtop mm)))) m') := by
  refine ME_of (env0 := fun DA => [(0, .ref g)]) (by decide) (fun DA => by exact Nat.le_of_ble_eq_true rfl) (fun DA => by rfl) (fun k mm R X C hR hN hr hname hP => ?_)
  have X : CX k cX6_lineOf RX6 := X
  have hT := TH_ofE C
  have htr := C.2.2.2.1
  have ho : HO k := C.2.2.2.2
  obtain ⟨hM, h⟩ := hP
  obtain ⟨hr1, hr2, hr3, hr4, hr5, hr6⟩ := hM.2.2.2.2.2.2.2.2.2.2.2.2
  refine g_new (c := 0) tyJ4 X rfl inWJ4 tyJ4_ok (qW_at 654 (by decide +kernel) rfl) (qW_at 655 (by decide +kernel) rfl) (qW_at 48 (by decide +kernel) rfl) (fun j hj => by rcases (by omega : j = 0 ∨ j = 1 ∨ j = 2 ∨ j = 3) with rfl | rfl | rfl | rfl <;> rfl) (by rw [hR]; exact Nat.le_of_ble_eq_true rfl) (by rw [hR]; exact Nat.le_of_ble_eq_true rfl) dX6_lineOf_0 ?_
  refine t_dup X dX6_lineOf_3 ?_
  refine e_callI (st := [.ref (qtop mm)]) (rok fun v m1 => v = none ∧ ∃ a2, BD (qtop mm) m1 (qtop mm) [] a2 16 ∧ FB (qtop mm) mm m1) X hT htr (E_J4_init_da8c8 (qtop mm) (qtop mm)) lk_J4_init_da8c8 im_J4_init_da8c8 rfl (qW_at 656 (by decide +kernel) rfl) rfl rfl (by rw [hR]; exact ⟨Nat.le_of_ble_eq_true rfl, Nat.le_of_ble_eq_true rfl⟩) (by exact Nat.le_of_ble_eq_true rfl) (by rw [hR]; exact ⟨Nat.le_of_ble_eq_true rfl, Nat.le_of_ble_eq_true rfl⟩) dX6_lineOf_4 (by rfl) (⟨⟨Nat.le_refl _, Nat.lt_succ_self _⟩, va_up_same _ _ _, va_up_same _ _ _, fun m' a' g1 g2 => ⟨_, rfl, rfl, a', g1, ((FB.refl _ mm).qnew (Nat.le_refl _)).trans g2⟩⟩) (fun _ _ h => rok_x h) (fun v mm0 h => ?_)
  obtain ⟨_, hv0, rfl, a0, hB0, hF0⟩ := h
  cases hv0
  have hM0 := hM.fb hF0
  have n0 : (16 : Nat) = 16 := rfl
  refine t_as (env' := [(1, .ref (qtop mm)), (0, .ref g)]) X dX6_lineOf_7 rfl (by rw [hN]; decide) rfl ?_
  have hl0 : ([] : List Int).length ≤ 0 := Nat.le_refl 0
  refine t_al 0 X dX6_lineOf_8 rfl rfl ?_
  refine t_al 1 X dX6_lineOf_9 rfl rfl ?_
  refine t_gi (c := 2) (j := 0) X rfl inW1 (by decide) (qW_at 1195 (by decide +kernel) rfl) rfl dX6_lineOf_10 hM0.2.1 (hM0.2.2.2.2.1) ?_
  refine e_callS (st := [.ref (qtop mm)]) (rok fun v m1 => v = some (.ref (kDA k (100 + kI kd))) ∧ mm0 = m1) X hT htr (E_X6_kindName kd) lk_X6_kindName st_X6_kindName (qW_at 684 (by decide +kernel) rfl) rfl (by rw [hR]; exact ⟨Nat.le_of_ble_eq_true rfl, Nat.le_of_ble_eq_true rfl⟩) (by exact Nat.le_of_ble_eq_true rfl) (by rw [hR]; exact ⟨Nat.le_of_ble_eq_true rfl, Nat.le_of_ble_eq_true rfl⟩) dX6_lineOf_13 (by rfl) (⟨hr1, _, rfl, rfl, rfl⟩) (fun _ _ h => rok_x h) (fun v m1 h => ?_)
  obtain ⟨_, hv0, rfl, rfl⟩ := h
  cases hv0
  have hk1 := WL_len (kI kd) (kI_lt kd)
  have hk2 := WL_le (kI kd) (kI_lt kd)
  refine e_callV (st := []) (rok fun v m1 => v = some (.ref (qtop mm)) ∧ ∃ a2 n2, BD (qtop mm) m1 (qtop mm) ([] ++ WL (kI kd)) a2 n2 ∧ FB (qtop mm) mm m1) (C := RJ4) X hT htr (E_J4_append_15ec4 (qtop mm) (qtop mm) [] a0 16 (kI kd)) lk_J4_append_15ec4 im_J4_append_15ec4 (qW_at 692 (by decide +kernel) rfl) (qW_at 690 (by decide +kernel) rfl) (fun H hH => t_recv X rfl hB0.2.1 hH) rfl rfl (by rw [hR]; exact ⟨Nat.le_of_ble_eq_true rfl, Nat.le_of_ble_eq_true rfl⟩) (by exact Nat.le_of_ble_eq_true rfl) (by rw [hR]; exact ⟨Nat.le_of_ble_eq_true rfl, Nat.le_of_ble_eq_true rfl⟩) dX6_lineOf_16 (by rfl) (⟨hB0, ⟨kI_lt kd, by omega⟩, fun m' a' n' g1 g2 => ⟨_, rfl, rfl, a', n', g1, hF0.trans g2⟩⟩) (fun _ _ h => rok_x h) (fun v mm1 h => ?_)
  obtain ⟨_, hv0, rfl, a1, n1, hB1, hF1⟩ := h
  cases hv0
  have hM1 := hM.fb hF1
  have hl1 : ([] ++ WL (kI kd)).length ≤ 9 := by rw [List.length_append]; skip; omega
  refine g_pop X dX6_lineOf_19 rfl ?_
  refine t_al 0 X dX6_lineOf_20 rfl rfl ?_
  refine g_bipush (v := I 32) X dX6_lineOf_21 (by decide) ?_
  refine e_callV (st := []) (rok fun v m1 => v = some (.ref (qtop mm)) ∧ ∃ a2 n2, BD (qtop mm) m1 (qtop mm) (([] ++ WL (kI kd)) ++ [32]) a2 n2 ∧ FB (qtop mm) mm m1) (C := RJ4) X hT htr (E_J4_append_cf468 (qtop mm) (qtop mm) ([] ++ WL (kI kd)) a1 n1 32) lk_J4_append_cf468 im_J4_append_cf468 (qW_at 810 (by decide +kernel) rfl) (qW_at 808 (by decide +kernel) rfl) (fun H hH => t_recv X rfl hB1.2.1 hH) rfl rfl (by rw [hR]; exact ⟨Nat.le_of_ble_eq_true rfl, Nat.le_of_ble_eq_true rfl⟩) (by exact Nat.le_of_ble_eq_true rfl) (by rw [hR]; exact ⟨Nat.le_of_ble_eq_true rfl, Nat.le_of_ble_eq_true rfl⟩) dX6_lineOf_23 (by rfl) (⟨hB1, ⟨⟨by omega, by omega⟩, by omega⟩, fun m' a' n' g1 g2 => ⟨_, rfl, rfl, a', n', g1, hF1.trans g2⟩⟩) (fun _ _ h => rok_x h) (fun v mm2 h => ?_)
  obtain ⟨_, hv0, rfl, a2, n2, hB2, hF2⟩ := h
  cases hv0
  have hM2 := hM.fb hF2
  have hl2 : (([] ++ WL (kI kd)) ++ [32]).length ≤ 10 := by rw [List.length_append]; show _ + 1 ≤ _; omega
  refine g_pop X dX6_lineOf_26 rfl ?_
  refine t_al 0 X dX6_lineOf_27 rfl rfl ?_
  refine g_bipush (v := I 97) X dX6_lineOf_28 (by decide) ?_
  refine t_al 1 X dX6_lineOf_30 rfl rfl ?_
  refine t_gi (c := 2) (j := 2) X rfl inW1 (by decide) (qW_at 1200 (by decide +kernel) rfl) rfl dX6_lineOf_31 hM2.2.1 (hM2.2.2.2.2.2.2.1) ?_
  refine g_iadd X dX6_lineOf_34 ?_
  rw [I_add]
  refine g_i2c X dX6_lineOf_35 ?_
  rw [ch_I (by omega) (by omega)]
  refine e_callV (st := []) (rok fun v m1 => v = some (.ref (qtop mm)) ∧ ∃ a2 n2, BD (qtop mm) m1 (qtop mm) ((([] ++ WL (kI kd)) ++ [32]) ++ [97 + sn]) a2 n2 ∧ FB (qtop mm) mm m1) (C := RJ4) X hT htr (E_J4_append_cf468 (qtop mm) (qtop mm) (([] ++ WL (kI kd)) ++ [32]) a2 n2 (97 + sn)) lk_J4_append_cf468 im_J4_append_cf468 (qW_at 810 (by decide +kernel) rfl) (qW_at 808 (by decide +kernel) rfl) (fun H hH => t_recv X rfl hB2.2.1 hH) rfl rfl (by rw [hR]; exact ⟨Nat.le_of_ble_eq_true rfl, Nat.le_of_ble_eq_true rfl⟩) (by exact Nat.le_of_ble_eq_true rfl) (by rw [hR]; exact ⟨Nat.le_of_ble_eq_true rfl, Nat.le_of_ble_eq_true rfl⟩) dX6_lineOf_36 (by rfl) (⟨hB2, ⟨⟨by omega, by omega⟩, by omega⟩, fun m' a' n' g1 g2 => ⟨_, rfl, rfl, a', n', g1, hF2.trans g2⟩⟩) (fun _ _ h => rok_x h) (fun v mm3 h => ?_)
  obtain ⟨_, hv0, rfl, a3, n3, hB3, hF3⟩ := h
  cases hv0
  have hM3 := hM.fb hF3
  have hl3 : ((([] ++ WL (kI kd)) ++ [32]) ++ [97 + sn]).length ≤ 11 := by rw [List.length_append]; show _ + 1 ≤ _; omega
  refine g_pop X dX6_lineOf_39 rfl ?_
  refine t_al 0 X dX6_lineOf_40 rfl rfl ?_
  refine g_bipush (v := I 97) X dX6_lineOf_41 (by decide) ?_
  refine t_al 1 X dX6_lineOf_43 rfl rfl ?_
  refine t_gi (c := 2) (j := 3) X rfl inW1 (by decide) (qW_at 1202 (by decide +kernel) rfl) rfl dX6_lineOf_44 hM3.2.1 (hM3.2.2.2.2.2.2.2.1) ?_
  refine g_iadd X dX6_lineOf_47 ?_
  rw [I_add]
  refine g_i2c X dX6_lineOf_48 ?_
  rw [ch_I (by omega) (by omega)]
  refine e_callV (st := []) (rok fun v m1 => v = some (.ref (qtop mm)) ∧ ∃ a2 n2, BD (qtop mm) m1 (qtop mm) (((([] ++ WL (kI kd)) ++ [32]) ++ [97 + sn]) ++ [97 + rc]) a2 n2 ∧ FB (qtop mm) mm m1) (C := RJ4) X hT htr (E_J4_append_cf468 (qtop mm) (qtop mm) ((([] ++ WL (kI kd)) ++ [32]) ++ [97 + sn]) a3 n3 (97 + rc)) lk_J4_append_cf468 im_J4_append_cf468 (qW_at 810 (by decide +kernel) rfl) (qW_at 808 (by decide +kernel) rfl) (fun H hH => t_recv X rfl hB3.2.1 hH) rfl rfl (by rw [hR]; exact ⟨Nat.le_of_ble_eq_true rfl, Nat.le_of_ble_eq_true rfl⟩) (by exact Nat.le_of_ble_eq_true rfl) (by rw [hR]; exact ⟨Nat.le_of_ble_eq_true rfl, Nat.le_of_ble_eq_true rfl⟩) dX6_lineOf_49 (by rfl) (⟨hB3, ⟨⟨by omega, by omega⟩, by omega⟩, fun m' a' n' g1 g2 => ⟨_, rfl, rfl, a', n', g1, hF3.trans g2⟩⟩) (fun _ _ h => rok_x h) (fun v mm4 h => ?_)
  obtain ⟨_, hv0, rfl, a4, n4, hB4, hF4⟩ := h
  cases hv0
  have hM4 := hM.fb hF4
  have hl4 : (((([] ++ WL (kI kd)) ++ [32]) ++ [97 + sn]) ++ [97 + rc]).length ≤ 12 := by rw [List.length_append]; show _ + 1 ≤ _; omega
  refine g_pop X dX6_lineOf_52 rfl ?_
  refine t_al 0 X dX6_lineOf_53 rfl rfl ?_
  refine g_bipush (v := I 32) X dX6_lineOf_54 (by decide) ?_
  refine e_callV (st := []) (rok fun v m1 => v = some (.ref (qtop mm)) ∧ ∃ a2 n2, BD (qtop mm) m1 (qtop mm) ((((([] ++ WL (kI kd)) ++ [32]) ++ [97 + sn]) ++ [97 + rc]) ++ [32]) a2 n2 ∧ FB (qtop mm) mm m1) (C := RJ4) X hT htr (E_J4_append_cf468 (qtop mm) (qtop mm) (((([] ++ WL (kI kd)) ++ [32]) ++ [97 + sn]) ++ [97 + rc]) a4 n4 32) lk_J4_append_cf468 im_J4_append_cf468 (qW_at 810 (by decide +kernel) rfl) (qW_at 808 (by decide +kernel) rfl) (fun H hH => t_recv X rfl hB4.2.1 hH) rfl rfl (by rw [hR]; exact ⟨Nat.le_of_ble_eq_true rfl, Nat.le_of_ble_eq_true rfl⟩) (by exact Nat.le_of_ble_eq_true rfl) (by rw [hR]; exact ⟨Nat.le_of_ble_eq_true rfl, Nat.le_of_ble_eq_true rfl⟩) dX6_lineOf_56 (by rfl) (⟨hB4, ⟨⟨by omega, by omega⟩, by omega⟩, fun m' a' n' g1 g2 => ⟨_, rfl, rfl, a', n', g1, hF4.trans g2⟩⟩) (fun _ _ h => rok_x h) (fun v mm5 h => ?_)
  obtain ⟨_, hv0, rfl, a5, n5, hB5, hF5⟩ := h
  cases hv0
  have hM5 := hM.fb hF5
  have hl5 : ((((([] ++ WL (kI kd)) ++ [32]) ++ [97 + sn]) ++ [97 + rc]) ++ [32]).length ≤ 13 := by rw [List.length_append]; show _ + 1 ≤ _; omega
  refine g_pop X dX6_lineOf_59 rfl ?_
  have hd1 := dg_len nr
  have hd2 := dg_len sq
  refine t_al 0 X dX6_lineOf_60 rfl rfl ?_
  refine t_al 1 X dX6_lineOf_61 rfl rfl ?_
  refine t_gr (c := 2) (j := 1) X rfl inW1 (by decide) (qW_at 1197 (by decide +kernel) rfl) rfl dX6_lineOf_62 hM5.2.1 hM5.2.2.2.2.2.1 ?_
  refine t_gi (c := 1) (j := 0) X rfl inW0 (by decide) (qW_at 1012 (by decide +kernel) rfl) rfl dX6_lineOf_65 hM5.2.2.1 (hM5.2.2.2.2.2.2.2.2.2.2.1) ?_
  refine e_callV (st := []) (rok fun v m1 => v = some (.ref (qtop mm)) ∧ ∃ a2 n2, BD (qtop mm) m1 (qtop mm) (((((([] ++ WL (kI kd)) ++ [32]) ++ [97 + sn]) ++ [97 + rc]) ++ [32]) ++ dg nr) a2 n2 ∧ FB (qtop mm) mm m1) (C := RJ4) X hT htr (E_J4_append_bf812 (qtop mm) (qtop mm) ((((([] ++ WL (kI kd)) ++ [32]) ++ [97 + sn]) ++ [97 + rc]) ++ [32]) a5 n5 nr) lk_J4_append_bf812 im_J4_append_bf812 (qW_at 832 (by decide +kernel) rfl) (qW_at 830 (by decide +kernel) rfl) (fun H hH => t_recv X rfl hB5.2.1 hH) rfl rfl (by rw [hR]; exact ⟨Nat.le_of_ble_eq_true rfl, Nat.le_of_ble_eq_true rfl⟩) (by exact Nat.le_of_ble_eq_true rfl) (by rw [hR]; exact ⟨Nat.le_of_ble_eq_true rfl, Nat.le_of_ble_eq_true rfl⟩) dX6_lineOf_68 (by rfl) (⟨hB5, ⟨⟨by omega, by omega⟩, by omega⟩, fun m' a' n' g1 g2 => ⟨_, rfl, rfl, a', n', g1, hF5.trans g2⟩⟩) (fun _ _ h => rok_x h) (fun v mm6 h => ?_)
  obtain ⟨_, hv0, rfl, a6, n6, hB6, hF6⟩ := h
  cases hv0
  have hM6 := hM.fb hF6
  have hl6 : (((((([] ++ WL (kI kd)) ++ [32]) ++ [97 + sn]) ++ [97 + rc]) ++ [32]) ++ dg nr).length ≤ 16 := by rw [List.length_append]; skip; omega
  refine g_pop X dX6_lineOf_71 rfl ?_
  refine t_al 0 X dX6_lineOf_72 rfl rfl ?_
  refine g_bipush (v := I 32) X dX6_lineOf_73 (by decide) ?_
  refine e_callV (st := []) (rok fun v m1 => v = some (.ref (qtop mm)) ∧ ∃ a2 n2, BD (qtop mm) m1 (qtop mm) ((((((([] ++ WL (kI kd)) ++ [32]) ++ [97 + sn]) ++ [97 + rc]) ++ [32]) ++ dg nr) ++ [32]) a2 n2 ∧ FB (qtop mm) mm m1) (C := RJ4) X hT htr (E_J4_append_cf468 (qtop mm) (qtop mm) (((((([] ++ WL (kI kd)) ++ [32]) ++ [97 + sn]) ++ [97 + rc]) ++ [32]) ++ dg nr) a6 n6 32) lk_J4_append_cf468 im_J4_append_cf468 (qW_at 810 (by decide +kernel) rfl) (qW_at 808 (by decide +kernel) rfl) (fun H hH => t_recv X rfl hB6.2.1 hH) rfl rfl (by rw [hR]; exact ⟨Nat.le_of_ble_eq_true rfl, Nat.le_of_ble_eq_true rfl⟩) (by exact Nat.le_of_ble_eq_true rfl) (by rw [hR]; exact ⟨Nat.le_of_ble_eq_true rfl, Nat.le_of_ble_eq_true rfl⟩) dX6_lineOf_75 (by rfl) (⟨hB6, ⟨⟨by omega, by omega⟩, by omega⟩, fun m' a' n' g1 g2 => ⟨_, rfl, rfl, a', n', g1, hF6.trans g2⟩⟩) (fun _ _ h => rok_x h) (fun v mm7 h => ?_)
  obtain ⟨_, hv0, rfl, a7, n7, hB7, hF7⟩ := h
  cases hv0
  have hM7 := hM.fb hF7
  have hl7 : ((((((([] ++ WL (kI kd)) ++ [32]) ++ [97 + sn]) ++ [97 + rc]) ++ [32]) ++ dg nr) ++ [32]).length ≤ 17 := by rw [List.length_append]; show _ + 1 ≤ _; omega
  refine g_pop X dX6_lineOf_78 rfl ?_
  refine t_al 0 X dX6_lineOf_79 rfl rfl ?_
  refine t_al 1 X dX6_lineOf_80 rfl rfl ?_
  refine t_gr (c := 2) (j := 4) X rfl inW1 (by decide) (qW_at 1204 (by decide +kernel) rfl) rfl dX6_lineOf_81 hM7.2.1 hM7.2.2.2.2.2.2.2.2.1 ?_
  refine t_gi (c := 5) (j := 0) X rfl inW4 (by decide) (qW_at 933 (by decide +kernel) rfl) rfl dX6_lineOf_84 hM7.2.2.2.1 (hM7.2.2.2.2.2.2.2.2.2.2.2.1) ?_
  refine e_callV (st := []) (rok fun v m1 => v = some (.ref (qtop mm)) ∧ ∃ a2 n2, BD (qtop mm) m1 (qtop mm) (((((((([] ++ WL (kI kd)) ++ [32]) ++ [97 + sn]) ++ [97 + rc]) ++ [32]) ++ dg nr) ++ [32]) ++ dg sq) a2 n2 ∧ FB (qtop mm) mm m1) (C := RJ4) X hT htr (E_J4_append_bf812 (qtop mm) (qtop mm) ((((((([] ++ WL (kI kd)) ++ [32]) ++ [97 + sn]) ++ [97 + rc]) ++ [32]) ++ dg nr) ++ [32]) a7 n7 sq) lk_J4_append_bf812 im_J4_append_bf812 (qW_at 832 (by decide +kernel) rfl) (qW_at 830 (by decide +kernel) rfl) (fun H hH => t_recv X rfl hB7.2.1 hH) rfl rfl (by rw [hR]; exact ⟨Nat.le_of_ble_eq_true rfl, Nat.le_of_ble_eq_true rfl⟩) (by exact Nat.le_of_ble_eq_true rfl) (by rw [hR]; exact ⟨Nat.le_of_ble_eq_true rfl, Nat.le_of_ble_eq_true rfl⟩) dX6_lineOf_87 (by rfl) (⟨hB7, ⟨⟨by omega, by omega⟩, by omega⟩, fun m' a' n' g1 g2 => ⟨_, rfl, rfl, a', n', g1, hF7.trans g2⟩⟩) (fun _ _ h => rok_x h) (fun v mm8 h => ?_)
  obtain ⟨_, hv0, rfl, a8, n8, hB8, hF8⟩ := h
  cases hv0
  have hM8 := hM.fb hF8
  have hl8 : (((((((([] ++ WL (kI kd)) ++ [32]) ++ [97 + sn]) ++ [97 + rc]) ++ [32]) ++ dg nr) ++ [32]) ++ dg sq).length ≤ 20 := by rw [List.length_append]; skip; omega
  refine g_pop X dX6_lineOf_90 rfl ?_
  refine t_al 1 X dX6_lineOf_91 rfl rfl ?_
  refine t_gi (c := 2) (j := 0) X rfl inW1 (by decide) (qW_at 1195 (by decide +kernel) rfl) rfl dX6_lineOf_92 hM8.2.1 (hM8.2.2.2.2.1) ?_
  refine g_iconst (v := I 1) X dX6_lineOf_95 rfl ?_
  by_cases ck : kd = 1
  · skip
    refine t_cneF 118 X dX6_lineOf_96 (by decide) (by rw [ck]) ?_
    refine t_al 0 X dX6_lineOf_99 rfl rfl ?_
    refine g_bipush (v := I 32) X dX6_lineOf_100 (by decide) ?_
    refine e_callV (st := []) (rok fun v m1 => v = some (.ref (qtop mm)) ∧ ∃ a2 n2, BD (qtop mm) m1 (qtop mm) ((((((((([] ++ WL (kI kd)) ++ [32]) ++ [97 + sn]) ++ [97 + rc]) ++ [32]) ++ dg nr) ++ [32]) ++ dg sq) ++ [32]) a2 n2 ∧ FB (qtop mm) mm m1) (C := RJ4) X hT htr (E_J4_append_cf468 (qtop mm) (qtop mm) (((((((([] ++ WL (kI kd)) ++ [32]) ++ [97 + sn]) ++ [97 + rc]) ++ [32]) ++ dg nr) ++ [32]) ++ dg sq) a8 n8 32) lk_J4_append_cf468 im_J4_append_cf468 (qW_at 810 (by decide +kernel) rfl) (qW_at 808 (by decide +kernel) rfl) (fun H hH => t_recv X rfl hB8.2.1 hH) rfl rfl (by rw [hR]; exact ⟨Nat.le_of_ble_eq_true rfl, Nat.le_of_ble_eq_true rfl⟩) (by exact Nat.le_of_ble_eq_true rfl) (by rw [hR]; exact ⟨Nat.le_of_ble_eq_true rfl, Nat.le_of_ble_eq_true rfl⟩) dX6_lineOf_102 (by rfl) (⟨hB8, ⟨⟨by omega, by omega⟩, by omega⟩, fun m' a' n' g1 g2 => ⟨_, rfl, rfl, a', n', g1, hF8.trans g2⟩⟩) (fun _ _ h => rok_x h) (fun v mm9 h => ?_)
    obtain ⟨_, hv0, rfl, a9, n9, hB9, hF9⟩ := h
    cases hv0
    have hM9 := hM.fb hF9
    have hl9 : ((((((((([] ++ WL (kI kd)) ++ [32]) ++ [97 + sn]) ++ [97 + rc]) ++ [32]) ++ dg nr) ++ [32]) ++ dg sq) ++ [32]).length ≤ 21 := by rw [List.length_append]; show _ + 1 ≤ _; omega
    refine g_pop X dX6_lineOf_105 rfl ?_
    refine t_al 0 X dX6_lineOf_106 rfl rfl ?_
    refine t_al 1 X dX6_lineOf_107 rfl rfl ?_
    refine t_gi (c := 2) (j := 7) X rfl inW1 (by decide) (qW_at 1211 (by decide +kernel) rfl) rfl dX6_lineOf_108 hM9.2.1 (hM9.2.2.2.2.2.2.2.2.2.1 ck) ?_
    refine e_callS (st := [.ref (qtop mm)]) (rok fun v m1 => v = some (.ref (kDA k (100 + aI an))) ∧ mm9 = m1) X hT htr (E_X6_answerName an) lk_X6_answerName st_X6_answerName (qW_at 855 (by decide +kernel) rfl) rfl (by rw [hR]; exact ⟨Nat.le_of_ble_eq_true rfl, Nat.le_of_ble_eq_true rfl⟩) (by exact Nat.le_of_ble_eq_true rfl) (by rw [hR]; exact ⟨Nat.le_of_ble_eq_true rfl, Nat.le_of_ble_eq_true rfl⟩) dX6_lineOf_111 (by rfl) (⟨hr6, _, rfl, rfl, rfl⟩) (fun _ _ h => rok_x h) (fun v m1 h => ?_)
    obtain ⟨_, hv0, rfl, rfl⟩ := h
    cases hv0
    have hk3 := WL_len (aI an) (aI_lt an)
    have hk4 := WL_le (aI an) (aI_lt an)
    refine e_callV (st := []) (rok fun v m1 => v = some (.ref (qtop mm)) ∧ ∃ a2 n2, BD (qtop mm) m1 (qtop mm) (((((((((([] ++ WL (kI kd)) ++ [32]) ++ [97 + sn]) ++ [97 + rc]) ++ [32]) ++ dg nr) ++ [32]) ++ dg sq) ++ [32]) ++ WL (aI an)) a2 n2 ∧ FB (qtop mm) mm m1) (C := RJ4) X hT htr (E_J4_append_15ec4 (qtop mm) (qtop mm) ((((((((([] ++ WL (kI kd)) ++ [32]) ++ [97 + sn]) ++ [97 + rc]) ++ [32]) ++ dg nr) ++ [32]) ++ dg sq) ++ [32]) a9 n9 (aI an)) lk_J4_append_15ec4 im_J4_append_15ec4 (qW_at 692 (by decide +kernel) rfl) (qW_at 690 (by decide +kernel) rfl) (fun H hH => t_recv X rfl hB9.2.1 hH) rfl rfl (by rw [hR]; exact ⟨Nat.le_of_ble_eq_true rfl, Nat.le_of_ble_eq_true rfl⟩) (by exact Nat.le_of_ble_eq_true rfl) (by rw [hR]; exact ⟨Nat.le_of_ble_eq_true rfl, Nat.le_of_ble_eq_true rfl⟩) dX6_lineOf_114 (by rfl) (⟨hB9, ⟨aI_lt an, by omega⟩, fun m' a' n' g1 g2 => ⟨_, rfl, rfl, a', n', g1, hF9.trans g2⟩⟩) (fun _ _ h => rok_x h) (fun v mm10 h => ?_)
    obtain ⟨_, hv0, rfl, a10, n10, hB10, hF10⟩ := h
    cases hv0
    have hM10 := hM.fb hF10
    have hl10 : (((((((((([] ++ WL (kI kd)) ++ [32]) ++ [97 + sn]) ++ [97 + rc]) ++ [32]) ++ dg nr) ++ [32]) ++ dg sq) ++ [32]) ++ WL (aI an)).length ≤ 30 := by rw [List.length_append]; skip; omega
    refine g_pop X dX6_lineOf_117 rfl ?_
    refine t_al 0 X dX6_lineOf_118 rfl rfl ?_
    rw [show lnA kd sn rc nr sq an = (lnB kd sn rc nr sq ++ [32]) ++ WL (aI an) from if_pos ck] at h
    exact e_aret X C hr (Or.inl ⟨_, rfl⟩) dX6_lineOf_119 (by rw [hR]; exact Nat.le_of_ble_eq_true rfl) (by rw [hR]; exact Nat.le_of_ble_eq_true rfl) (h _ _ _ hB10 hF10)
  · skip
    refine t_cneT (tgt := 118) X dX6_lineOf_96 (by decide) (fun q => ck ((I_inj (by omega) (by omega) (by omega) (by omega)).mp q)) ?_
    refine t_al 0 X dX6_lineOf_118 rfl rfl ?_
    rw [show lnA kd sn rc nr sq an = lnB kd sn rc nr sq from if_neg ck] at h
    exact e_aret X C hr (Or.inl ⟨_, rfl⟩) dX6_lineOf_119 (by rw [hR]; exact Nat.le_of_ble_eq_true rfl) (by rw [hR]; exact Nat.le_of_ble_eq_true rfl) (h _ _ _ hB8 hF8)
