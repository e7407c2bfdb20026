/-! a new builder; its length, its chars; the names of kinds and of answers -/
def bdn (m : QM) (q : Nat) : QM := sfi (sfr (qnewi m 2 16 (fun _ => 0)) 0 q (some (qtop m))) 1 q 0
theorem BD.new {w : Nat} {m : QM} {q : Nat} (hw : w ≤ q) (hq : q < qtop m) (ht : qty m q = (1, 0, 0)) (h3 : qfi m 3 q = 0) : BD w (bdn m q) q [] (qtop m) 16 ∧ FB w m (bdn m q) := by
  have eA : qai (bdn m q) (qtop m) = fun _ => 0 := va_up_same _ _ _
  refine ⟨⟨⟨hw, by omega, by omega, by show q < qtop m + 1; omega, by show qtop m < qtop m + 1; omega⟩, (va_up_diff _ _ (by omega)).trans ht, fr_s, fi_s, (fi_n (by decide)).trans (h3.trans (by decide)), va_up_same _ _ _, ⟨Or.inl rfl, by decide⟩, fun j hj => absurd hj (Nat.not_lt_zero j), fun j => ?_, fun c hc => absurd hc (List.not_mem_nil)⟩, ?_⟩
  · rw [eA]
    show fb8 0
    exact ⟨by decide, by decide⟩
  · exact (((FB.refl w m).qnewi (by omega)).sfr hw).sfi hw
theorem and_dec : ∀ c, c < 128 → I ((c : Nat) : Int) &&& I 255 = I ((c : Nat) : Int) := by decide +kernel
theorem and_I {c : Int} (h0 : 0 ≤ c) (h1 : c < 128) : I c &&& I 255 = I c := by
  obtain ⟨a, rfl⟩ := Int.eq_ofNat_of_zero_le h0
  exact and_dec a (by omega)
theorem charN {c : Int} (h0 : 0 ≤ c) (h1 : c < 128) : narrow .char (.int (I c)) = .int (I c) := by
  obtain ⟨j, hj, e⟩ := vp_in_of (n := 65536) (vp_in_iff.mpr (show 0 ≤ (I c).toInt ∧ (I c).toInt < 65536 by rw [toInt_I (by omega) (by omega)]; omega)) (by decide)
  rw [e]; exact (pk_charN hj).1
theorem BD.at {w : Nat} {m : QM} {q : Nat} {L : List Int} {a n i : Nat} (h : BD w m q L a n) (hi : i < L.length) : 0 ≤ L.getD i 0 ∧ L.getD i 0 < 128 := by
  have hm : L.getD i 0 ∈ L := by
    rw [List.getD_eq_getElem?_getD, List.getElem?_eq_getElem hi]
    exact List.getElem_mem _
  exact h.2.2.2.2.2.2.2.2.2 _ hm
def kI (k : Int) : Nat := if k = 0 then 0 else if k = 1 then 1 else 2
def aI (a : Int) : Nat := if a = 1 then 3 else if a = 2 then 4 else if a = 3 then 5 else 6
theorem kI_lt (k : Int) : kI k < 7 := by unfold kI; split; · decide
                                         split <;> decide
theorem aI_lt (a : Int) : aI a < 7 := by
  unfold aI; split
  · decide
  · split
    · decide
    · split <;> decide
theorem kI_W (k : Int) : WL (kI k) = KW k := by
  unfold kI KW; split
  · decide
  · split <;> decide
theorem aI_W (k : Int) : WL (aI k) = AW k := by
  unfold aI AW; split
  · decide
  · split
    · decide
    · split <;> decide
abbrev cJ5_init_d00df : ByteArray := prog_10_method_2_code
def yJ5_init_d00df : MethodName := ⟨RJ5, "<init>", "(I)V"⟩
theorem lk_J5_init_d00df : LK yJ5_init_d00df cJ5_init_d00df 2 none 1 := ⟨(qW_at 661 (by decide +kernel) rfl), (qW_at 47 (by decide +kernel) rfl), by decide, by decide, by decide +kernel⟩
theorem im_J5_init_d00df : Cond.instanceMethod yJ5_init_d00df ∈ qW := (qW_at 660 (by decide +kernel) rfl)
theorem dJ5_init_d00df_0 : decode cJ5_init_d00df 0 = .ok (.aload_n 0, 1) := by decide +kernel
theorem dJ5_init_d00df_1 : decode cJ5_init_d00df 1 = .ok (.invokespecial 3, 3) := by decide +kernel
theorem dJ5_init_d00df_4 : decode cJ5_init_d00df 4 = .ok (.getstatic 18, 3) := by decide +kernel
theorem dJ5_init_d00df_7 : decode cJ5_init_d00df 7 = .ok (.ifCond .eq 18, 3) := by decide +kernel
theorem dJ5_init_d00df_10 : decode cJ5_init_d00df 10 = .ok (.aload_n 0, 1) := by decide +kernel
theorem dJ5_init_d00df_11 : decode cJ5_init_d00df 11 = .ok (.iload_n 1, 1) := by decide +kernel
theorem dJ5_init_d00df_12 : decode cJ5_init_d00df 12 = .ok (.newarray .byte, 2) := by decide +kernel
theorem dJ5_init_d00df_14 : decode cJ5_init_d00df 14 = .ok (.putfield 15, 3) := by decide +kernel
theorem dJ5_init_d00df_17 : decode cJ5_init_d00df 17 = .ok (.aload_n 0, 1) := by decide +kernel
theorem dJ5_init_d00df_18 : decode cJ5_init_d00df 18 = .ok (.iconst 0, 1) := by decide +kernel
theorem dJ5_init_d00df_19 : decode cJ5_init_d00df 19 = .ok (.putfield 22, 3) := by decide +kernel
theorem dJ5_init_d00df_22 : decode cJ5_init_d00df 22 = .ok (.goto 16, 3) := by decide +kernel
theorem dJ5_init_d00df_38 : decode cJ5_init_d00df 38 = .ok (.return_, 1) := by decide +kernel
set_option maxRecDepth 100000 in
set_option maxHeartbeats 400000 in
theorem E_J5_init_d00df (w q : Nat) : ME yJ5_init_d00df cJ5_init_d00df 2 none 1 20 1 16 (fun DA => [.ref q, .int (I 16)]) (fun DA mm R => (w ≤ q ∧ q < qtop mm) ∧ qty mm q = (1, 0, 0) ∧ qfi mm 3 q = 0 ∧ ∀ m' a', BD w m' q [] a' 16 → FB w mm m' → R (.ok none) m') := by
  refine ME_of (env0 := fun DA => [(0, .ref q), (1, .int (I 16))]) (by decide) (fun DA => by exact Nat.le_of_ble_eq_true rfl) (fun DA => by rfl) (fun k mm R X C hR hN hr hname hP => ?_)
  have X : CX k cJ5_init_d00df RJ5 := X
  have hT := TH_ofE C
  have htr := C.2.2.2.1
  have ho : HO k := C.2.2.2.2
  obtain ⟨⟨h1, h2⟩, h3, h4, h5⟩ := hP
  refine t_al 0 X dJ5_init_d00df_0 rfl rfl ?_
  refine g_objinit X (qW_at 662 (by decide +kernel) rfl) oi_in oi_co (by rw [hR]; exact Nat.le_of_ble_eq_true rfl) (by rw [hR]; exact Nat.le_of_ble_eq_true rfl) dJ5_init_d00df_1 ?_
  refine t_compact X ho (qW_at 663 (by decide +kernel) rfl) dJ5_init_d00df_4 ?_
  refine t_eqF 25 X dJ5_init_d00df_7 (by decide) (by decide) ?_
  refine t_al 0 X dJ5_init_d00df_10 rfl rfl ?_
  refine g_iload_n 1 X dJ5_init_d00df_11 rfl rfl ?_
  refine g_newi2 16 X ac_byte (by decide) (by decide) (by rw [hR]; exact Nat.le_of_ble_eq_true rfl) (by rw [hR]; exact Nat.le_of_ble_eq_true rfl) dJ5_init_d00df_12 ?_
  rw [show (I 16).toNatClampNeg = 16 from by decide]
  have hg := BD.new h1 h2 h3 h4
  have ht : qty (qnewi mm 2 16 (fun _ => 0)) q = (1, 0, 0) := (va_up_diff _ _ (by omega)).trans h3
  refine t_sbpv X (qW_at 672 (by decide +kernel) rfl) dJ5_init_d00df_14 ht ?_
  refine t_al 0 X dJ5_init_d00df_17 rfl rfl ?_
  refine g_iconst (v := I 0) X dJ5_init_d00df_18 rfl ?_
  rw [show I 0 = (0 : Int32) from by decide]
  refine t_sbpo X (qW_at 673 (by decide +kernel) rfl) dJ5_init_d00df_19 ht ?_
  refine g_goto (tgt := 38) X dJ5_init_d00df_22 (by decide) ?_
  exact e_vret X C hr dJ5_init_d00df_38 (by rw [hR]; exact Nat.le_of_ble_eq_true rfl) (by rw [hR]; exact Nat.le_of_ble_eq_true rfl) (h5 _ _ hg.1 hg.2)
abbrev cJ4_init_da8c8 : ByteArray := prog_22_method_1_code
def yJ4_init_da8c8 : MethodName := ⟨RJ4, "<init>", "()V"⟩
theorem lk_J4_init_da8c8 : LK yJ4_init_da8c8 cJ4_init_da8c8 1 none 0 := ⟨(qW_at 658 (by decide +kernel) rfl), (qW_at 48 (by decide +kernel) rfl), by decide, by decide, by decide +kernel⟩
theorem im_J4_init_da8c8 : Cond.instanceMethod yJ4_init_da8c8 ∈ qW := (qW_at 657 (by decide +kernel) rfl)
theorem dJ4_init_da8c8_0 : decode cJ4_init_da8c8 0 = .ok (.aload_n 0, 1) := by decide +kernel
theorem dJ4_init_da8c8_1 : decode cJ4_init_da8c8 1 = .ok (.bipush 16, 2) := by decide +kernel
theorem dJ4_init_da8c8_3 : decode cJ4_init_da8c8 3 = .ok (.invokespecial 1, 3) := by decide +kernel
theorem dJ4_init_da8c8_6 : decode cJ4_init_da8c8 6 = .ok (.return_, 1) := by decide +kernel
set_option maxRecDepth 100000 in
set_option maxHeartbeats 400000 in
theorem E_J4_init_da8c8 (w q : Nat) : ME yJ4_init_da8c8 cJ4_init_da8c8 1 none 2 41 1 16 (fun DA => [.ref q]) (fun DA mm R => (w ≤ q ∧ q < qtop mm) ∧ qty mm q = (1, 0, 0) ∧ qfi mm 3 q = 0 ∧ ∀ m' a', BD w m' q [] a' 16 → FB w mm m' → R (.ok none) m') := by
  refine ME_of (env0 := fun DA => [(0, .ref q)]) (by decide) (fun DA => by exact Nat.le_of_ble_eq_true rfl) (fun DA => by rfl) (fun k mm R X C hR hN hr hname hP => ?_)
  have X : CX k cJ4_init_da8c8 RJ4 := X
  have hT := TH_ofE C
  have htr := C.2.2.2.1
  have ho : HO k := C.2.2.2.2
  obtain ⟨h1, h3, h4, h5⟩ := hP
  refine t_al 0 X dJ4_init_da8c8_0 rfl rfl ?_
  refine g_bipush (v := I 16) X dJ4_init_da8c8_1 (by decide) ?_
  refine e_callI (st := []) (rok fun v m1 => v = none ∧ ∃ a2, BD w m1 q [] a2 16 ∧ FB w mm m1) X hT htr (E_J5_init_d00df w q) lk_J5_init_d00df im_J5_init_d00df rfl (qW_at 659 (by decide +kernel) rfl) rfl rfl (by rw [hR]; exact ⟨Nat.le_of_ble_eq_true rfl, Nat.le_of_ble_eq_true rfl⟩) (by exact Nat.le_of_ble_eq_true rfl) (by rw [hR]; exact ⟨Nat.le_of_ble_eq_true rfl, Nat.le_of_ble_eq_true rfl⟩) dJ4_init_da8c8_3 (by rfl) (⟨h1, h3, h4, fun m' a' g1 g2 => ⟨_, rfl, rfl, a', g1, g2⟩⟩) (fun _ _ h => rok_x h) (fun v m1 h => ?_)
  obtain ⟨_, hv0, rfl, a2, hB, hF⟩ := h
  cases hv0
  exact e_vret X C hr dJ4_init_da8c8_6 (by rw [hR]; exact Nat.le_of_ble_eq_true rfl) (by rw [hR]; exact Nat.le_of_ble_eq_true rfl) (h5 _ _ hB hF)
abbrev cJ5_length_8abf5 : ByteArray := prog_10_method_6_code
def yJ5_length_8abf5 : MethodName := ⟨RJ5, "length", "()I"⟩
theorem lk_J5_length_8abf5 : LK yJ5_length_8abf5 cJ5_length_8abf5 1 (some .int) 0 := ⟨(qW_at 868 (by decide +kernel) rfl), (qW_at 47 (by decide +kernel) rfl), by decide, by decide, by decide +kernel⟩
theorem im_J5_length_8abf5 : Cond.instanceMethod yJ5_length_8abf5 ∈ qW := (qW_at 867 (by decide +kernel) rfl)
theorem sm_J5_length_8abf5 : Cond.sameMethod yJ5_length_8abf5.cls yJ5_length_8abf5.cls yJ5_length_8abf5.name yJ5_length_8abf5.desc ∈ qW := (qW_at 1299 (by decide +kernel) rfl)
theorem dJ5_length_8abf5_0 : decode cJ5_length_8abf5 0 = .ok (.aload_n 0, 1) := by decide +kernel
theorem dJ5_length_8abf5_1 : decode cJ5_length_8abf5 1 = .ok (.getfield 79, 3) := by decide +kernel
theorem dJ5_length_8abf5_4 : decode cJ5_length_8abf5 4 = .ok (.ireturn, 1) := by decide +kernel
set_option maxRecDepth 100000 in
set_option maxHeartbeats 400000 in
theorem E_J5_length_8abf5 (q : Nat) (l : Int) : ME yJ5_length_8abf5 cJ5_length_8abf5 1 (some .int) 0 0 0 0 (fun DA => [.ref q]) (fun DA mm R => qty mm q = (1, 0, 0) ∧ qfi mm 3 q = I l ∧ R (.ok (some (.int (I l)))) mm) := by
  refine ME_of (env0 := fun DA => [(0, .ref q)]) (by decide) (fun DA => by exact Nat.le_of_ble_eq_true rfl) (fun DA => by rfl) (fun k mm R X C hR hN hr hname hP => ?_)
  have X : CX k cJ5_length_8abf5 RJ5 := X
  have hT := TH_ofE C
  have htr := C.2.2.2.1
  have ho : HO k := C.2.2.2.2
  obtain ⟨h1, h2, h3⟩ := hP
  refine t_al 0 X dJ5_length_8abf5_0 rfl rfl ?_
  refine t_sbi (j := 3) X (by decide) (qW_at 674 (by decide +kernel) rfl) rfl dJ5_length_8abf5_1 h1 h2 ?_
  exact e_iret X C hr rfl dJ5_length_8abf5_4 (by rw [hR]; exact Nat.le_of_ble_eq_true rfl) (by rw [hR]; exact Nat.le_of_ble_eq_true rfl) (h3)
abbrev cJ4_length_8abf5 : ByteArray := prog_22_method_93_code
def yJ4_length_8abf5 : MethodName := ⟨RJ4, "length", "()I"⟩
theorem lk_J4_length_8abf5 : LK yJ4_length_8abf5 cJ4_length_8abf5 1 (some .int) 0 := ⟨(qW_at 865 (by decide +kernel) rfl), (qW_at 48 (by decide +kernel) rfl), by decide, by decide, by decide +kernel⟩
theorem im_J4_length_8abf5 : Cond.instanceMethod yJ4_length_8abf5 ∈ qW := (qW_at 863 (by decide +kernel) rfl)
theorem dJ4_length_8abf5_0 : decode cJ4_length_8abf5 0 = .ok (.aload_n 0, 1) := by decide +kernel
theorem dJ4_length_8abf5_1 : decode cJ4_length_8abf5 1 = .ok (.invokespecial 343, 3) := by decide +kernel
theorem dJ4_length_8abf5_4 : decode cJ4_length_8abf5 4 = .ok (.ireturn, 1) := by decide +kernel
set_option maxRecDepth 100000 in
set_option maxHeartbeats 400000 in
theorem E_J4_length_8abf5 (q : Nat) (l : Int) : ME yJ4_length_8abf5 cJ4_length_8abf5 1 (some .int) 1 20 0 0 (fun DA => [.ref q]) (fun DA mm R => qty mm q = (1, 0, 0) ∧ qfi mm 3 q = I l ∧ R (.ok (some (.int (I l)))) mm) := by
  refine ME_of (env0 := fun DA => [(0, .ref q)]) (by decide) (fun DA => by exact Nat.le_of_ble_eq_true rfl) (fun DA => by rfl) (fun k mm R X C hR hN hr hname hP => ?_)
  have X : CX k cJ4_length_8abf5 RJ4 := X
  have hT := TH_ofE C
  have htr := C.2.2.2.1
  have ho : HO k := C.2.2.2.2
  obtain ⟨h1, h2, h3⟩ := hP
  refine t_al 0 X dJ4_length_8abf5_0 rfl rfl ?_
  refine e_callU (st := []) (rok fun v m1 => v = some (.int (I l)) ∧ mm = m1) X hT htr (E_J5_length_8abf5 q l) lk_J5_length_8abf5 im_J5_length_8abf5 sm_J5_length_8abf5 (qW_at 683 (by decide +kernel) rfl) (by decide) (qW_at 866 (by decide +kernel) rfl) h1 rfl rfl (by rw [hR]; exact ⟨Nat.le_of_ble_eq_true rfl, Nat.le_of_ble_eq_true rfl⟩) (by exact Nat.le_of_ble_eq_true rfl) (by rw [hR]; exact ⟨Nat.le_of_ble_eq_true rfl, Nat.le_of_ble_eq_true rfl⟩) dJ4_length_8abf5_1 (by rfl) (⟨h1, h2, _, rfl, rfl, rfl⟩) (fun _ _ h => rok_x h) (fun v m1 h => ?_)
  obtain ⟨_, hv0, rfl, rfl⟩ := h
  cases hv0
  exact e_iret X C hr rfl dJ4_length_8abf5_4 (by rw [hR]; exact Nat.le_of_ble_eq_true rfl) (by rw [hR]; exact Nat.le_of_ble_eq_true rfl) (h3)
abbrev cJ3_checkIndex_8e157 : ByteArray := prog_29_method_11_code
def yJ3_checkIndex_8e157 : MethodName := ⟨RJ3, "checkIndex", "(IILjava/util/function/BiFunction;)I"⟩
theorem lk_J3_checkIndex_8e157 : LK yJ3_checkIndex_8e157 cJ3_checkIndex_8e157 3 (some .int) 3 := ⟨(qW_at 829 (by decide +kernel) rfl), (qW_at 53 (by decide +kernel) rfl), by decide, by decide, by decide +kernel⟩
theorem st_J3_checkIndex_8e157 : Cond.static yJ3_checkIndex_8e157 ∈ qW := (qW_at 828 (by decide +kernel) rfl)
theorem dJ3_checkIndex_8e157_0 : decode cJ3_checkIndex_8e157 0 = .ok (.iload_n 0, 1) := by decide +kernel
theorem dJ3_checkIndex_8e157_1 : decode cJ3_checkIndex_8e157 1 = .ok (.ifCond .lt 8, 3) := by decide +kernel
theorem dJ3_checkIndex_8e157_4 : decode cJ3_checkIndex_8e157 4 = .ok (.iload_n 0, 1) := by decide +kernel
theorem dJ3_checkIndex_8e157_5 : decode cJ3_checkIndex_8e157 5 = .ok (.iload_n 1, 1) := by decide +kernel
theorem dJ3_checkIndex_8e157_6 : decode cJ3_checkIndex_8e157 6 = .ok (.if_icmp .lt 10, 3) := by decide +kernel
theorem dJ3_checkIndex_8e157_16 : decode cJ3_checkIndex_8e157 16 = .ok (.iload_n 0, 1) := by decide +kernel
theorem dJ3_checkIndex_8e157_17 : decode cJ3_checkIndex_8e157 17 = .ok (.ireturn, 1) := by decide +kernel
set_option maxRecDepth 100000 in
set_option maxHeartbeats 400000 in
theorem E_J3_checkIndex_8e157 (i n : Int) (r : Option Nat) : ME yJ3_checkIndex_8e157 cJ3_checkIndex_8e157 3 (some .int) 0 0 0 0 (fun DA => [.int (I i), .int (I n), va_rf r]) (fun DA mm R => (0 ≤ i ∧ i < n ∧ n ≤ 34) ∧ R (.ok (some (.int (I i)))) mm) := by
  refine ME_of (env0 := fun DA => [(0, .int (I i)), (1, .int (I n)), (2, va_rf r)]) (by decide) (fun DA => by cases r <;> exact Nat.le_of_ble_eq_true rfl) (fun DA => by cases r <;> rfl) (fun k mm R X C hR hN hr hname hP => ?_)
  have X : CX k cJ3_checkIndex_8e157 RJ3 := X
  have hT := TH_ofE C
  have htr := C.2.2.2.1
  have ho : HO k := C.2.2.2.2
  obtain ⟨h1, h2⟩ := hP
  refine g_iload_n 0 X dJ3_checkIndex_8e157_0 rfl rfl ?_
  refine t_ltF 9 X dJ3_checkIndex_8e157_1 (by decide) (by rw [show (0 : Int32) = I 0 from rfl, I_lt (by omega) (by omega) (by omega) (by omega)]; omega) ?_
  refine g_iload_n 0 X dJ3_checkIndex_8e157_4 rfl rfl ?_
  refine g_iload_n 1 X dJ3_checkIndex_8e157_5 rfl rfl ?_
  refine t_cltT (tgt := 16) X dJ3_checkIndex_8e157_6 (by decide) (by rw [I_lt (by omega) (by omega) (by omega) (by omega)]; omega) ?_
  refine g_iload_n 0 X dJ3_checkIndex_8e157_16 rfl rfl ?_
  exact e_iret X C hr rfl dJ3_checkIndex_8e157_17 (by rw [hR]; exact Nat.le_of_ble_eq_true rfl) (by rw [hR]; exact Nat.le_of_ble_eq_true rfl) (h2)
abbrev cJ0_checkIndex_df160 : ByteArray := prog_21_method_155_code
def yJ0_checkIndex_df160 : MethodName := ⟨RJ0, "checkIndex", "(II)V"⟩
theorem lk_J0_checkIndex_df160 : LK yJ0_checkIndex_df160 cJ0_checkIndex_df160 2 none 2 := ⟨(qW_at 826 (by decide +kernel) rfl), (qW_at 49 (by decide +kernel) rfl), by decide, by decide, by decide +kernel⟩
theorem st_J0_checkIndex_df160 : Cond.static yJ0_checkIndex_df160 ∈ qW := (qW_at 825 (by decide +kernel) rfl)
theorem dJ0_checkIndex_df160_0 : decode cJ0_checkIndex_df160 0 = .ok (.iload_n 0, 1) := by decide +kernel
theorem dJ0_checkIndex_df160_1 : decode cJ0_checkIndex_df160 1 = .ok (.iload_n 1, 1) := by decide +kernel
theorem dJ0_checkIndex_df160_2 : decode cJ0_checkIndex_df160 2 = .ok (.getstatic 1053, 3) := by decide +kernel
theorem dJ0_checkIndex_df160_5 : decode cJ0_checkIndex_df160 5 = .ok (.invokestatic 1059, 3) := by decide +kernel
theorem dJ0_checkIndex_df160_8 : decode cJ0_checkIndex_df160 8 = .ok (.pop, 1) := by decide +kernel
theorem dJ0_checkIndex_df160_9 : decode cJ0_checkIndex_df160 9 = .ok (.return_, 1) := by decide +kernel
set_option maxRecDepth 100000 in
set_option maxHeartbeats 400000 in
theorem E_J0_checkIndex_df160 (i n : Int) : ME yJ0_checkIndex_df160 cJ0_checkIndex_df160 2 none 1 22 0 0 (fun DA => [.int (I i), .int (I n)]) (fun DA mm R => (0 ≤ i ∧ i < n ∧ n ≤ 34) ∧ R (.ok none) mm) := by
  refine ME_of (env0 := fun DA => [(0, .int (I i)), (1, .int (I n))]) (by decide) (fun DA => by exact Nat.le_of_ble_eq_true rfl) (fun DA => by rfl) (fun k mm R X C hR hN hr hname hP => ?_)
  have X : CX k cJ0_checkIndex_df160 RJ0 := X
  have hT := TH_ofE C
  have htr := C.2.2.2.1
  have ho : HO k := C.2.2.2.2
  obtain ⟨h1, h2⟩ := hP
  refine g_iload_n 0 X dJ0_checkIndex_df160_0 rfl rfl ?_
  refine g_iload_n 1 X dJ0_checkIndex_df160_1 rfl rfl ?_
  refine t_form X ho (qW_at 751 (by decide +kernel) rfl) dJ0_checkIndex_df160_2 (fun r => ?_)
  refine e_callS (st := []) (rok fun v m1 => v = some (.int (I i)) ∧ mm = m1) X hT htr (E_J3_checkIndex_8e157 i n r) lk_J3_checkIndex_8e157 st_J3_checkIndex_8e157 (qW_at 827 (by decide +kernel) rfl) rfl (by rw [hR]; exact ⟨Nat.le_of_ble_eq_true rfl, Nat.le_of_ble_eq_true rfl⟩) (by exact Nat.le_of_ble_eq_true rfl) (by rw [hR]; exact ⟨Nat.le_of_ble_eq_true rfl, Nat.le_of_ble_eq_true rfl⟩) dJ0_checkIndex_df160_5 (by rfl) (⟨h1, _, rfl, rfl, rfl⟩) (fun _ _ h => rok_x h) (fun v m1 h => ?_)
  obtain ⟨_, hv0, rfl, rfl⟩ := h
  cases hv0
  refine g_pop X dJ0_checkIndex_df160_8 rfl ?_
  exact e_vret X C hr dJ0_checkIndex_df160_9 (by rw [hR]; exact Nat.le_of_ble_eq_true rfl) (by rw [hR]; exact Nat.le_of_ble_eq_true rfl) (h2)
abbrev cJ5_charAt_5068e : ByteArray := prog_10_method_14_code
def yJ5_charAt_5068e : MethodName := ⟨RJ5, "charAt", "(I)C"⟩
theorem lk_J5_charAt_5068e : LK yJ5_charAt_5068e cJ5_charAt_5068e 5 (some .char) 1 := ⟨(qW_at 882 (by decide +kernel) rfl), (qW_at 47 (by decide +kernel) rfl), by decide, by decide, by decide +kernel⟩
theorem im_J5_charAt_5068e : Cond.instanceMethod yJ5_charAt_5068e ∈ qW := (qW_at 881 (by decide +kernel) rfl)
theorem sm_J5_charAt_5068e : Cond.sameMethod yJ5_charAt_5068e.cls yJ5_charAt_5068e.cls yJ5_charAt_5068e.name yJ5_charAt_5068e.desc ∈ qW := (qW_at 1300 (by decide +kernel) rfl)
theorem dJ5_charAt_5068e_0 : decode cJ5_charAt_5068e 0 = .ok (.aload_n 0, 1) := by decide +kernel
theorem dJ5_charAt_5068e_1 : decode cJ5_charAt_5068e 1 = .ok (.getfield 22, 3) := by decide +kernel
theorem dJ5_charAt_5068e_4 : decode cJ5_charAt_5068e 4 = .ok (.istore_n 2, 1) := by decide +kernel
theorem dJ5_charAt_5068e_5 : decode cJ5_charAt_5068e 5 = .ok (.aload_n 0, 1) := by decide +kernel
theorem dJ5_charAt_5068e_6 : decode cJ5_charAt_5068e 6 = .ok (.getfield 15, 3) := by decide +kernel
theorem dJ5_charAt_5068e_9 : decode cJ5_charAt_5068e 9 = .ok (.astore_n 3, 1) := by decide +kernel
theorem dJ5_charAt_5068e_10 : decode cJ5_charAt_5068e 10 = .ok (.aload_n 0, 1) := by decide +kernel
theorem dJ5_charAt_5068e_11 : decode cJ5_charAt_5068e 11 = .ok (.getfield 79, 3) := by decide +kernel
theorem dJ5_charAt_5068e_14 : decode cJ5_charAt_5068e 14 = .ok (.aload_n 3, 1) := by decide +kernel
theorem dJ5_charAt_5068e_15 : decode cJ5_charAt_5068e 15 = .ok (.arraylength, 1) := by decide +kernel
theorem dJ5_charAt_5068e_16 : decode cJ5_charAt_5068e 16 = .ok (.iload_n 2, 1) := by decide +kernel
theorem dJ5_charAt_5068e_17 : decode cJ5_charAt_5068e 17 = .ok (.ishr, 1) := by decide +kernel
theorem dJ5_charAt_5068e_18 : decode cJ5_charAt_5068e 18 = .ok (.invokestatic 138, 3) := by decide +kernel
theorem dJ5_charAt_5068e_21 : decode cJ5_charAt_5068e 21 = .ok (.istore 4, 2) := by decide +kernel
theorem dJ5_charAt_5068e_23 : decode cJ5_charAt_5068e 23 = .ok (.iload_n 1, 1) := by decide +kernel
theorem dJ5_charAt_5068e_24 : decode cJ5_charAt_5068e 24 = .ok (.iload 4, 2) := by decide +kernel
theorem dJ5_charAt_5068e_26 : decode cJ5_charAt_5068e 26 = .ok (.invokestatic 144, 3) := by decide +kernel
theorem dJ5_charAt_5068e_29 : decode cJ5_charAt_5068e 29 = .ok (.iload_n 2, 1) := by decide +kernel
theorem dJ5_charAt_5068e_30 : decode cJ5_charAt_5068e 30 = .ok (.ifCond .ne 12, 3) := by decide +kernel
theorem dJ5_charAt_5068e_33 : decode cJ5_charAt_5068e 33 = .ok (.aload_n 3, 1) := by decide +kernel
theorem dJ5_charAt_5068e_34 : decode cJ5_charAt_5068e 34 = .ok (.iload_n 1, 1) := by decide +kernel
theorem dJ5_charAt_5068e_35 : decode cJ5_charAt_5068e 35 = .ok (.baload, 1) := by decide +kernel
theorem dJ5_charAt_5068e_36 : decode cJ5_charAt_5068e 36 = .ok (.sipush 255, 3) := by decide +kernel
theorem dJ5_charAt_5068e_39 : decode cJ5_charAt_5068e 39 = .ok (.iand, 1) := by decide +kernel
theorem dJ5_charAt_5068e_40 : decode cJ5_charAt_5068e 40 = .ok (.i2c, 1) := by decide +kernel
theorem dJ5_charAt_5068e_41 : decode cJ5_charAt_5068e 41 = .ok (.ireturn, 1) := by decide +kernel
set_option maxRecDepth 100000 in
set_option maxHeartbeats 400000 in
theorem E_J5_charAt_5068e (w q : Nat) (L : List Int) (a n i : Nat) : ME yJ5_charAt_5068e cJ5_charAt_5068e 5 (some .char) 2 43 0 0 (fun DA => [.ref q, .int (I (i : Int))]) (fun DA mm R => BD w mm q L a n ∧ i < L.length ∧ R (.ok (some (.int (I (L.getD i 0))))) mm) := by
  refine ME_of (env0 := fun DA => [(0, .ref q), (1, .int (I (i : Int)))]) (by decide) (fun DA => by exact Nat.le_of_ble_eq_true rfl) (fun DA => by rfl) (fun k mm R X C hR hN hr hname hP => ?_)
  have X : CX k cJ5_charAt_5068e RJ5 := X
  have hT := TH_ofE C
  have htr := C.2.2.2.1
  have ho : HO k := C.2.2.2.2
  obtain ⟨hB, hi, h⟩ := hP
  obtain ⟨⟨b1, b2, b3, b4, b5⟩, b6, b7, b8, b9, b10, ⟨b11, b12⟩, b13, b14, b15⟩ := id hB
  refine t_al 0 X dJ5_charAt_5068e_0 rfl rfl ?_
  refine t_sbi (j := 1) X (by decide) (qW_at 673 (by decide +kernel) rfl) rfl dJ5_charAt_5068e_1 b6 b8 ?_
  refine g_istore_n (env' := [(2, .int 0), (0, .ref q), (1, .int (I (i : Int)))]) X dJ5_charAt_5068e_4 rfl (by rw [hN]; decide) rfl ?_
  refine t_al 1 X dJ5_charAt_5068e_5 rfl rfl ?_
  refine t_sbr X (qW_at 672 (by decide +kernel) rfl) dJ5_charAt_5068e_6 b6 b7 ?_
  refine t_as (env' := [(3, .ref a), (2, .int 0), (0, .ref q), (1, .int (I (i : Int)))]) X dJ5_charAt_5068e_9 rfl (by rw [hN]; decide) rfl ?_
  refine t_al 2 X dJ5_charAt_5068e_10 rfl rfl ?_
  refine t_sbi (j := 3) X (by decide) (qW_at 674 (by decide +kernel) rfl) rfl dJ5_charAt_5068e_11 b6 b9 ?_
  refine t_al 0 X dJ5_charAt_5068e_14 rfl rfl ?_
  refine t_alen X dJ5_charAt_5068e_15 b10 ?_
  refine g_iload_n 1 X dJ5_charAt_5068e_16 rfl rfl ?_
  refine g_ishr X dJ5_charAt_5068e_17 ?_
  rw [shr0]
  refine g_min X (qW_at 883 (by decide +kernel) rfl) (by rw [hR]; exact Nat.le_of_ble_eq_true rfl) (by rw [hR]; exact Nat.le_of_ble_eq_true rfl) (by rw [hR]; exact Nat.le_of_ble_eq_true rfl) (by rw [hR]; exact Nat.le_of_ble_eq_true rfl) dJ5_charAt_5068e_18 ?_
  rw [if_neg (show ¬ I (n : Int) < I (L.length : Int) by rw [I_lt (by omega) (by omega) (by omega) (by omega)]; omega)]
  refine g_istore (env' := [(4, .int (I (L.length : Int))), (3, .ref a), (2, .int 0), (0, .ref q), (1, .int (I (i : Int)))]) X dJ5_charAt_5068e_21 (by rw [hN]; decide) rfl ?_
  refine g_iload_n 4 X dJ5_charAt_5068e_23 rfl rfl ?_
  refine g_iload 0 X dJ5_charAt_5068e_24 rfl ?_
  refine e_callS (st := []) (rok fun v m1 => v = none ∧ mm = m1) X hT htr (E_J0_checkIndex_df160 (i : Int) (L.length : Int)) lk_J0_checkIndex_df160 st_J0_checkIndex_df160 (qW_at 884 (by decide +kernel) rfl) rfl (by rw [hR]; exact ⟨Nat.le_of_ble_eq_true rfl, Nat.le_of_ble_eq_true rfl⟩) (by exact Nat.le_of_ble_eq_true rfl) (by rw [hR]; exact ⟨Nat.le_of_ble_eq_true rfl, Nat.le_of_ble_eq_true rfl⟩) dJ5_charAt_5068e_26 (by rfl) (⟨⟨by omega, by omega, by omega⟩, _, rfl, rfl, rfl⟩) (fun _ _ h => rok_x h) (fun v m1 h => ?_)
  obtain ⟨_, hv0, rfl, rfl⟩ := h
  cases hv0
  refine g_iload_n 2 X dJ5_charAt_5068e_29 rfl rfl ?_
  refine t_neF 42 X dJ5_charAt_5068e_30 (by decide) rfl ?_
  refine t_al 1 X dJ5_charAt_5068e_33 rfl rfl ?_
  refine g_iload_n 4 X dJ5_charAt_5068e_34 rfl rfl ?_
  have hcl : (I (i : Int)).toNatClampNeg = i := by rw [clamp_I (by omega) (by omega)]; omega
  refine g_bald (n := n) X b10 (fun z => ?_) dJ5_charAt_5068e_35 ?_
  · rcases z with z | z
    · rw [show (0 : Int32) = I 0 from rfl, I_lt (by omega) (by omega) (by omega) (by omega)] at z; omega
    · rw [hcl] at z; omega
  have hc := hB.at hi
  rw [hcl, b13 i hi]
  refine g_sipush (v := I 255) X dJ5_charAt_5068e_36 (by decide) ?_
  refine g_iand X dJ5_charAt_5068e_39 ?_
  rw [and_I hc.1 hc.2]
  refine g_i2c X dJ5_charAt_5068e_40 ?_
  rw [ch_I hc.1 (by omega)]
  exact e_iret X C hr (charN hc.1 hc.2) dJ5_charAt_5068e_41 (by rw [hR]; exact Nat.le_of_ble_eq_true rfl) (by rw [hR]; exact Nat.le_of_ble_eq_true rfl) (h)
abbrev cJ4_charAt_5068e : ByteArray := prog_22_method_88_code
def yJ4_charAt_5068e : MethodName := ⟨RJ4, "charAt", "(I)C"⟩
theorem lk_J4_charAt_5068e : LK yJ4_charAt_5068e cJ4_charAt_5068e 2 (some .char) 1 := ⟨(qW_at 879 (by decide +kernel) rfl), (qW_at 48 (by decide +kernel) rfl), by decide, by decide, by decide +kernel⟩
theorem im_J4_charAt_5068e : Cond.instanceMethod yJ4_charAt_5068e ∈ qW := (qW_at 877 (by decide +kernel) rfl)
theorem dJ4_charAt_5068e_0 : decode cJ4_charAt_5068e 0 = .ok (.aload_n 0, 1) := by decide +kernel
theorem dJ4_charAt_5068e_1 : decode cJ4_charAt_5068e 1 = .ok (.iload_n 1, 1) := by decide +kernel
theorem dJ4_charAt_5068e_2 : decode cJ4_charAt_5068e 2 = .ok (.invokespecial 329, 3) := by decide +kernel
theorem dJ4_charAt_5068e_5 : decode cJ4_charAt_5068e 5 = .ok (.ireturn, 1) := by decide +kernel
set_option maxRecDepth 100000 in
set_option maxHeartbeats 400000 in
theorem E_J4_charAt_5068e (w q : Nat) (L : List Int) (a n i : Nat) : ME yJ4_charAt_5068e cJ4_charAt_5068e 2 (some .char) 3 67 0 0 (fun DA => [.ref q, .int (I (i : Int))]) (fun DA mm R => BD w mm q L a n ∧ i < L.length ∧ R (.ok (some (.int (I (L.getD i 0))))) mm) := by
  refine ME_of (env0 := fun DA => [(0, .ref q), (1, .int (I (i : Int)))]) (by decide) (fun DA => by exact Nat.le_of_ble_eq_true rfl) (fun DA => by rfl) (fun k mm R X C hR hN hr hname hP => ?_)
  have X : CX k cJ4_charAt_5068e RJ4 := X
  have hT := TH_ofE C
  have htr := C.2.2.2.1
  have ho : HO k := C.2.2.2.2
  obtain ⟨hB, hi, h⟩ := hP
  refine t_al 0 X dJ4_charAt_5068e_0 rfl rfl ?_
  refine g_iload_n 1 X dJ4_charAt_5068e_1 rfl rfl ?_
  refine e_callU (st := []) (rok fun v m1 => v = some (.int (I (L.getD i 0))) ∧ mm = m1) X hT htr (E_J5_charAt_5068e w q L a n i) lk_J5_charAt_5068e im_J5_charAt_5068e sm_J5_charAt_5068e (qW_at 683 (by decide +kernel) rfl) (by decide) (qW_at 880 (by decide +kernel) rfl) hB.2.1 rfl rfl (by rw [hR]; exact ⟨Nat.le_of_ble_eq_true rfl, Nat.le_of_ble_eq_true rfl⟩) (by exact Nat.le_of_ble_eq_true rfl) (by rw [hR]; exact ⟨Nat.le_of_ble_eq_true rfl, Nat.le_of_ble_eq_true rfl⟩) dJ4_charAt_5068e_2 (by rfl) (⟨hB, hi, _, rfl, rfl, rfl⟩) (fun _ _ h => rok_x h) (fun v m1 h => ?_)
  obtain ⟨_, hv0, rfl, rfl⟩ := h
  cases hv0
  have hc := hB.at hi
  exact e_iret X C hr (charN hc.1 hc.2) dJ4_charAt_5068e_5 (by rw [hR]; exact Nat.le_of_ble_eq_true rfl) (by rw [hR]; exact Nat.le_of_ble_eq_true rfl) (h)
theorem lk_X6_kindName : LK yX6_kindName cX6_kindName 1 (some (.object "java/lang/String")) 1 := ⟨(qW_at 686 (by decide +kernel) rfl), (qW_at 29 (by decide +kernel) rfl), by decide, by decide, by decide +kernel⟩
theorem st_X6_kindName : Cond.static yX6_kindName ∈ qW := (qW_at 685 (by decide +kernel) rfl)
theorem dX6_kindName_0 : decode cX6_kindName 0 = .ok (.iload_n 0, 1) := by decide +kernel
theorem dX6_kindName_1 : decode cX6_kindName 1 = .ok (.lookupswitch 35 #[(0, 27), (1, 31)], 27) := by decide +kernel
theorem dX6_kindName_28 : decode cX6_kindName 28 = .ok (.ldc_w 445, 3) := by decide +kernel
theorem dX6_kindName_31 : decode cX6_kindName 31 = .ok (.areturn, 1) := by decide +kernel
theorem dX6_kindName_32 : decode cX6_kindName 32 = .ok (.ldc_w 447, 3) := by decide +kernel
theorem dX6_kindName_35 : decode cX6_kindName 35 = .ok (.areturn, 1) := by decide +kernel
theorem dX6_kindName_36 : decode cX6_kindName 36 = .ok (.ldc_w 449, 3) := by decide +kernel
theorem dX6_kindName_39 : decode cX6_kindName 39 = .ok (.areturn, 1) := by decide +kernel
set_option maxRecDepth 100000 in
set_option maxHeartbeats 400000 in
theorem E_X6_kindName (kd : Int) : ME yX6_kindName cX6_kindName 1 (some (.object "java/lang/String")) 0 0 0 0 (fun DA => [.int (I kd)]) (fun DA mm R => (0 ≤ kd ∧ kd ≤ 2) ∧ R (.ok (some (.ref (DA (100 + kI kd))))) mm) := by
  refine ME_of (env0 := fun DA => [(0, .int (I kd))]) (by decide) (fun DA => by exact Nat.le_of_ble_eq_true rfl) (fun DA => by rfl) (fun k mm R X C hR hN hr hname hP => ?_)
  have X : CX k cX6_kindName RX6 := X
  have hT := TH_ofE C
  have htr := C.2.2.2.1
  have ho : HO k := C.2.2.2.2
  obtain ⟨h1, h2⟩ := hP
  refine g_iload_n 0 X dX6_kindName_0 rfl rfl ?_
  refine W2_lookup (a0 := I 0) (a1 := I 1) (t0 := 28) (t1 := 32) (td := 36) X dX6_kindName_1 (by decide) (by decide) (by decide) (I kd) mm _ _ ?_
  rcases (by omega : kd = 0 ∨ kd = 1 ∨ kd = 2) with rfl | rfl | rfl
  · rw [if_pos rfl]
    refine t_ldc (j := 0) (by decide) X dX6_kindName_28 rfl ?_
    exact e_aret X C hr (Or.inl ⟨_, rfl⟩) dX6_kindName_31 (by rw [hR]; exact Nat.le_of_ble_eq_true rfl) (by rw [hR]; exact Nat.le_of_ble_eq_true rfl) (h2)
  · rw [if_neg (show ¬ I 1 = I 0 by decide), if_pos rfl]
    refine t_ldc (j := 1) (by decide) X dX6_kindName_32 rfl ?_
    exact e_aret X C hr (Or.inl ⟨_, rfl⟩) dX6_kindName_35 (by rw [hR]; exact Nat.le_of_ble_eq_true rfl) (by rw [hR]; exact Nat.le_of_ble_eq_true rfl) (h2)
  · rw [if_neg (show ¬ I 2 = I 0 by decide), if_neg (show ¬ I 2 = I 1 by decide)]
    refine t_ldc (j := 2) (by decide) X dX6_kindName_36 rfl ?_
    exact e_aret X C hr (Or.inl ⟨_, rfl⟩) dX6_kindName_39 (by rw [hR]; exact Nat.le_of_ble_eq_true rfl) (by rw [hR]; exact Nat.le_of_ble_eq_true rfl) (h2)
theorem W3_table {k : QC} {cc : ByteArray} {own : String} {env : List (Nat × Value)} {i : Nat} {lo hi d0 d1 d2 dd : Int} {len t0 t1 t2 td : Nat} (X : CX k cc own) (hdg : decode cc i = .ok (.tableswitch dd lo hi #[d0, d1, d2], len)) (hk : hi = lo + 2) (h0 : (i : Int) + d0 = (t0 : Int) ∧ (i : Int) + d1 = (t1 : Int) ∧ (i : Int) + d2 = (t2 : Int)) (hd : (i : Int) + dd = (td : Int)) :
    ∀ (v : Int32) (mm : QM) (a b : Nat), GG k env [] mm (if v.toInt = lo then t0 else if v.toInt = lo + 1 then t1 else if v.toInt = lo + 2 then t2 else td) a b → GG k env (.int v :: []) mm i a b := by
  intro v mm a b h H locs ls z hR hl hls
  by_cases q0 : v.toInt = lo
  · rw [if_pos q0] at h
    exact lv_tableIn X.1 X.2.1 hdg (by omega) (by omega) (off := d0) (by rw [show (v.toInt - lo).toNat = 0 by omega]; rfl) h0.1 (h H locs ls z hR hl hls)
  · rw [if_neg q0] at h
    by_cases q1 : v.toInt = lo + 1
    · rw [if_pos q1] at h
      exact lv_tableIn X.1 X.2.1 hdg (by omega) (by omega) (off := d1) (by rw [show (v.toInt - lo).toNat = 1 by omega]; rfl) h0.2.1 (h H locs ls z hR hl hls)
    · rw [if_neg q1] at h
      by_cases q2 : v.toInt = lo + 2
      · rw [if_pos q2] at h
        exact lv_tableIn X.1 X.2.1 hdg (by omega) (by omega) (off := d2) (by rw [show (v.toInt - lo).toNat = 2 by omega]; rfl) h0.2.2 (h H locs ls z hR hl hls)
      · rw [if_neg q2] at h
        exact lv_tableOut X.1 X.2.1 hdg (by omega) hd (h H locs ls z hR hl hls)
theorem lk_X6_answerName : LK yX6_answerName cX6_answerName 1 (some (.object "java/lang/String")) 1 := ⟨(qW_at 857 (by decide +kernel) rfl), (qW_at 29 (by decide +kernel) rfl), by decide, by decide, by decide +kernel⟩
theorem st_X6_answerName : Cond.static yX6_answerName ∈ qW := (qW_at 856 (by decide +kernel) rfl)
theorem dX6_answerName_0 : decode cX6_answerName 0 = .ok (.iload_n 0, 1) := by decide +kernel
theorem dX6_answerName_1 : decode cX6_answerName 1 = .ok (.tableswitch 39 1 3 #[27, 31, 35], 27) := by decide +kernel
theorem dX6_answerName_28 : decode cX6_answerName 28 = .ok (.ldc_w 451, 3) := by decide +kernel
theorem dX6_answerName_31 : decode cX6_answerName 31 = .ok (.areturn, 1) := by decide +kernel
theorem dX6_answerName_32 : decode cX6_answerName 32 = .ok (.ldc_w 453, 3) := by decide +kernel
theorem dX6_answerName_35 : decode cX6_answerName 35 = .ok (.areturn, 1) := by decide +kernel
theorem dX6_answerName_36 : decode cX6_answerName 36 = .ok (.ldc_w 455, 3) := by decide +kernel
theorem dX6_answerName_39 : decode cX6_answerName 39 = .ok (.areturn, 1) := by decide +kernel
theorem dX6_answerName_40 : decode cX6_answerName 40 = .ok (.ldc_w 457, 3) := by decide +kernel
theorem dX6_answerName_43 : decode cX6_answerName 43 = .ok (.areturn, 1) := by decide +kernel
set_option maxRecDepth 100000 in
set_option maxHeartbeats 400000 in
theorem E_X6_answerName (an : Int) : ME yX6_answerName cX6_answerName 1 (some (.object "java/lang/String")) 0 0 0 0 (fun DA => [.int (I an)]) (fun DA mm R => (0 ≤ an ∧ an ≤ 4) ∧ R (.ok (some (.ref (DA (100 + aI an))))) mm) := by
  refine ME_of (env0 := fun DA => [(0, .int (I an))]) (by decide) (fun DA => by exact Nat.le_of_ble_eq_true rfl) (fun DA => by rfl) (fun k mm R X C hR hN hr hname hP => ?_)
  have X : CX k cX6_answerName RX6 := X
  have hT := TH_ofE C
  have htr := C.2.2.2.1
  have ho : HO k := C.2.2.2.2
  obtain ⟨h1, h2⟩ := hP
  refine g_iload_n 0 X dX6_answerName_0 rfl rfl ?_
  refine W3_table (t0 := 28) (t1 := 32) (t2 := 36) (td := 40) X dX6_answerName_1 (by decide) (by decide) (by decide) (I an) mm _ _ ?_
  rcases (by omega : an = 1 ∨ an = 2 ∨ an = 3 ∨ an = 0 ∨ an = 4) with rfl | rfl | rfl | rfl | rfl
  · rw [show (if (I 1).toInt = 1 then 28 else if (I 1).toInt = 1 + 1 then 32 else if (I 1).toInt = 1 + 2 then 36 else 40) = 28 from by decide]
    refine t_ldc (j := 3) (by decide) X dX6_answerName_28 rfl ?_
    exact e_aret X C hr (Or.inl ⟨_, rfl⟩) dX6_answerName_31 (by rw [hR]; exact Nat.le_of_ble_eq_true rfl) (by rw [hR]; exact Nat.le_of_ble_eq_true rfl) (h2)
  · rw [show (if (I 2).toInt = 1 then 28 else if (I 2).toInt = 1 + 1 then 32 else if (I 2).toInt = 1 + 2 then 36 else 40) = 32 from by decide]
    refine t_ldc (j := 4) (by decide) X dX6_answerName_32 rfl ?_
    exact e_aret X C hr (Or.inl ⟨_, rfl⟩) dX6_answerName_35 (by rw [hR]; exact Nat.le_of_ble_eq_true rfl) (by rw [hR]; exact Nat.le_of_ble_eq_true rfl) (h2)
  · rw [show (if (I 3).toInt = 1 then 28 else if (I 3).toInt = 1 + 1 then 32 else if (I 3).toInt = 1 + 2 then 36 else 40) = 36 from by decide]
    refine t_ldc (j := 5) (by decide) X dX6_answerName_36 rfl ?_
    exact e_aret X C hr (Or.inl ⟨_, rfl⟩) dX6_answerName_39 (by rw [hR]; exact Nat.le_of_ble_eq_true rfl) (by rw [hR]; exact Nat.le_of_ble_eq_true rfl) (h2)
  · rw [show (if (I 0).toInt = 1 then 28 else if (I 0).toInt = 1 + 1 then 32 else if (I 0).toInt = 1 + 2 then 36 else 40) = 40 from by decide]
    refine t_ldc (j := 6) (by decide) X dX6_answerName_40 rfl ?_
    exact e_aret X C hr (Or.inl ⟨_, rfl⟩) dX6_answerName_43 (by rw [hR]; exact Nat.le_of_ble_eq_true rfl) (by rw [hR]; exact Nat.le_of_ble_eq_true rfl) (h2)
  · rw [show (if (I 4).toInt = 1 then 28 else if (I 4).toInt = 1 + 1 then 32 else if (I 4).toInt = 1 + 2 then 36 else 40) = 40 from by decide]
    refine t_ldc (j := 6) (by decide) X dX6_answerName_40 rfl ?_
    exact e_aret X C hr (Or.inl ⟨_, rfl⟩) dX6_answerName_43 (by rw [hR]; exact Nat.le_of_ble_eq_true rfl) (by rw [hR]; exact Nat.le_of_ble_eq_true rfl) (h2)
