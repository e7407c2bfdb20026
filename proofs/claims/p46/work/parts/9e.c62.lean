/-! a text, a char behind what the builder holds -/
theorem gd_l {A B : List Int} {j : Nat} (h : j < A.length) : (A ++ B).getD j 0 = A.getD j 0 := by rw [List.getD_eq_getElem?_getD, List.getD_eq_getElem?_getD, List.getElem?_append_left h]
theorem gd_r {A B : List Int} {j : Nat} (h : A.length ≤ j) : (A ++ B).getD j 0 = B.getD (j - A.length) 0 := by rw [List.getD_eq_getElem?_getD, List.getD_eq_getElem?_getD, List.getElem?_append_right h]
/-- the letters of the texts -/
def WL (j : Nat) : List Int := (qsb.getD j []).map Int32.toInt
theorem WL_len : ∀ j, j < 7 → (WL j).length = qsl.getD j 0 := by decide +kernel
theorem WL_at : ∀ j, j < 7 → ∀ y, y < qsl.getD j 0 → I ((WL j).getD y 0) = (qsb.getD j []).getD y 0 ∧ 0 ≤ (WL j).getD y 0 ∧ (WL j).getD y 0 < 128 := by decide +kernel
theorem WL_ok : ∀ j, j < 7 → ∀ c ∈ WL j, 0 ≤ c ∧ c < 128 := by decide +kernel
theorem WL_le : ∀ j, j < 7 → qsl.getD j 0 ≤ 9 := by decide +kernel
/-- the builder with a text copied behind, its count set -/
def bds (m : QM) (q a : Nat) (j : Nat) (L : List Int) : QM := sfi (sarr m a (va_cpy (fun y => (qsb.getD j []).getD y 0) (qai m a) 0 L.length (qsl.getD j 0))) 3 q (I ((L ++ WL j).length : Nat))
theorem BD.text {w : Nat} {m : QM} {q : Nat} {L : List Int} {a n j : Nat} (h : BD w m q L a n) (hj : j < 7) (hl : L.length + qsl.getD j 0 ≤ n) : BD w (bds m q a j L) q (L ++ WL j) a n ∧ FB w m (bds m q a j L) := by
  obtain ⟨⟨h1, h2, h3, h4, h5⟩, h6, h7, h8, h9, h10, ⟨h11, h12⟩, h13, h14, h15⟩ := h
  have hw := WL_len j hj
  have eA : qai (bds m q a j L) a = va_cpy (fun y => (qsb.getD j []).getD y 0) (qai m a) 0 L.length (qsl.getD j 0) := sa_s
  have hlen : (L ++ WL j).length = L.length + qsl.getD j 0 := by rw [List.length_append, hw]
  refine ⟨⟨⟨h1, h2, h3, h4, h5⟩, h6, h7, (fi_n (by decide)).trans h8, fi_s, h10, ⟨h11, by rw [hlen]; exact hl⟩, fun y hy => ?_, fun y => ?_, fun c hc => ?_⟩, ?_⟩
  · rw [hlen] at hy
    rw [eA]
    unfold va_cpy
    by_cases c : y < L.length
    · rw [if_neg (by omega), h13 y c, gd_l c]
    · rw [if_pos ⟨by omega, by omega⟩, gd_r (by omega)]
      rw [(WL_at j hj (y - L.length) (by omega)).1, show 0 + (y - L.length) = y - L.length from by omega]
  · rw [eA]
    unfold va_cpy
    split
    · rename_i c
      have g := WL_at j hj (y - L.length) (by omega)
      rw [show 0 + (y - L.length) = y - L.length from by omega]
      show fb8 ((qsb.getD j []).getD (y - L.length) 0)
      rw [← g.1]
      exact fb_I g.2.1 g.2.2
    · exact h14 _
  · rcases List.mem_append.mp hc with g | g
    · exact h15 c g
    · exact WL_ok j hj c g
  · exact ((FB.refl w m).sarr h2).sfi h1
/-- the builder with a char behind -/
def bdc (m : QM) (q a : Nat) (c : Int) (L : List Int) : QM := sai (sfi m 3 q (I ((L.length : Int) + 1))) a L.length (I c)
theorem BD.char {w : Nat} {m : QM} {q : Nat} {L : List Int} {a n : Nat} {c : Int} (h : BD w m q L a n) (hc : 0 ≤ c ∧ c < 128) (hl : L.length + 1 ≤ n) : BD w (bdc m q a c L) q (L ++ [c]) a n ∧ FB w m (bdc m q a c L) := by
  obtain ⟨⟨h1, h2, h3, h4, h5⟩, h6, h7, h8, h9, h10, ⟨h11, h12⟩, h13, h14, h15⟩ := h
  have eA : qai (bdc m q a c L) a = va_up (qai m a) L.length (I c) := sa_s
  refine ⟨⟨⟨h1, h2, h3, h4, h5⟩, h6, h7, (show qfi (sfi m 3 q (I ((L.length : Int) + 1))) 1 q = 0 from (fi_n (by decide)).trans h8), ?_, h10, ⟨h11, by rw [List.length_append]; exact hl⟩, fun y hy => ?_, fun y => ?_, fun d hd => ?_⟩, ?_⟩
  · have e : (((L ++ [c]).length : Nat) : Int) = (L.length : Int) + 1 := by rw [List.length_append]; rfl
    rw [e]
    show qfi (sfi m 3 q (I ((L.length : Int) + 1))) 3 q = _
    exact fi_s
  · rw [List.length_append] at hy
    have hy : y < L.length + 1 := hy
    rw [eA]
    by_cases e : y = L.length
    · subst e
      rw [va_up_same, gd_r (Nat.le_refl _), Nat.sub_self]; rfl
    · rw [va_up_diff _ _ e, h13 y (by omega), gd_l (by omega)]
  · rw [eA]
    by_cases e : y = L.length
    · subst e
      rw [va_up_same]; exact fb_I hc.1 hc.2
    · rw [va_up_diff _ _ e]; exact h14 y
  · rcases List.mem_append.mp hd with g | g
    · exact h15 d g
    · rw [List.mem_singleton.mp g]; exact hc
  · exact ((FB.refl w m).sfi h1).trans (((FB.refl w _).sarr h2))
abbrev cJ0_coder_7d493 : ByteArray := prog_21_method_152_code
def yJ0_coder_7d493 : MethodName := ⟨RJ0, "coder", "()B"⟩
theorem lk_J0_coder_7d493 : LK yJ0_coder_7d493 cJ0_coder_7d493 1 (some .byte) 0 := ⟨(qW_at 772 (by decide +kernel) rfl), (qW_at 49 (by decide +kernel) rfl), by decide, by decide, by decide +kernel⟩
theorem im_J0_coder_7d493 : Cond.instanceMethod yJ0_coder_7d493 ∈ qW := (qW_at 770 (by decide +kernel) rfl)
theorem dJ0_coder_7d493_0 : decode cJ0_coder_7d493 0 = .ok (.getstatic 38, 3) := by decide +kernel
theorem dJ0_coder_7d493_3 : decode cJ0_coder_7d493 3 = .ok (.ifCond .eq 10, 3) := by decide +kernel
theorem dJ0_coder_7d493_6 : decode cJ0_coder_7d493 6 = .ok (.aload_n 0, 1) := by decide +kernel
theorem dJ0_coder_7d493_7 : decode cJ0_coder_7d493 7 = .ok (.getfield 15, 3) := by decide +kernel
theorem dJ0_coder_7d493_10 : decode cJ0_coder_7d493 10 = .ok (.goto 4, 3) := by decide +kernel
theorem dJ0_coder_7d493_14 : decode cJ0_coder_7d493 14 = .ok (.ireturn, 1) := by decide +kernel
set_option maxRecDepth 100000 in
set_option maxHeartbeats 400000 in
theorem E_J0_coder_7d493 (j : Nat) : ME yJ0_coder_7d493 cJ0_coder_7d493 1 (some .byte) 0 0 0 0 (fun DA => [.ref (DA (100 + j))]) (fun DA mm R => j < 7 ∧ R (.ok (some (.int 0))) mm) := by
  refine ME_of (env0 := fun DA => [(0, .ref (DA (100 + j)))]) (by decide) (fun DA => by exact Nat.le_of_ble_eq_true rfl) (fun DA => by rfl) (fun k mm R X C hR hN hr hname hP => ?_)
  have X : CX k cJ0_coder_7d493 RJ0 := X
  have hT := TH_ofE C
  have htr := C.2.2.2.1
  have ho : HO k := C.2.2.2.2
  obtain ⟨h1, h2⟩ := hP
  refine t_compact X ho (qW_at 773 (by decide +kernel) rfl) dJ0_coder_7d493_0 ?_
  refine t_eqF 13 X dJ0_coder_7d493_3 (by decide) (by decide) ?_
  refine t_al 0 X dJ0_coder_7d493_6 rfl rfl ?_
  refine t_scod h1 X ho (qW_at 1302 (by decide +kernel) rfl) dJ0_coder_7d493_7 ?_
  refine g_goto (tgt := 14) X dJ0_coder_7d493_10 (by decide) ?_
  exact e_iret X C hr (by decide) dJ0_coder_7d493_14 (by rw [hR]; exact Nat.le_of_ble_eq_true rfl) (by rw [hR]; exact Nat.le_of_ble_eq_true rfl) (h2)
abbrev cJ0_length_8abf5 : ByteArray := prog_21_method_54_code
def yJ0_length_8abf5 : MethodName := ⟨RJ0, "length", "()I"⟩
theorem lk_J0_length_8abf5 : LK yJ0_length_8abf5 cJ0_length_8abf5 1 (some .int) 0 := ⟨(qW_at 768 (by decide +kernel) rfl), (qW_at 49 (by decide +kernel) rfl), by decide, by decide, by decide +kernel⟩
theorem im_J0_length_8abf5 : Cond.instanceMethod yJ0_length_8abf5 ∈ qW := (qW_at 766 (by decide +kernel) rfl)
theorem dJ0_length_8abf5_0 : decode cJ0_length_8abf5 0 = .ok (.aload_n 0, 1) := by decide +kernel
theorem dJ0_length_8abf5_1 : decode cJ0_length_8abf5 1 = .ok (.getfield 9, 3) := by decide +kernel
theorem dJ0_length_8abf5_4 : decode cJ0_length_8abf5 4 = .ok (.arraylength, 1) := by decide +kernel
theorem dJ0_length_8abf5_5 : decode cJ0_length_8abf5 5 = .ok (.aload_n 0, 1) := by decide +kernel
theorem dJ0_length_8abf5_6 : decode cJ0_length_8abf5 6 = .ok (.invokevirtual 335, 3) := by decide +kernel
theorem dJ0_length_8abf5_9 : decode cJ0_length_8abf5 9 = .ok (.ishr, 1) := by decide +kernel
theorem dJ0_length_8abf5_10 : decode cJ0_length_8abf5 10 = .ok (.ireturn, 1) := by decide +kernel
set_option maxRecDepth 100000 in
set_option maxHeartbeats 400000 in
theorem E_J0_length_8abf5 (j : Nat) : ME yJ0_length_8abf5 cJ0_length_8abf5 1 (some .int) 1 20 0 0 (fun DA => [.ref (DA (100 + j))]) (fun DA mm R => j < 7 ∧ R (.ok (some (.int (I ((qsl.getD j 0 : Nat) : Int))))) mm) := by
  refine ME_of (env0 := fun DA => [(0, .ref (DA (100 + j)))]) (by decide) (fun DA => by exact Nat.le_of_ble_eq_true rfl) (fun DA => by rfl) (fun k mm R X C hR hN hr hname hP => ?_)
  have X : CX k cJ0_length_8abf5 RJ0 := X
  have hT := TH_ofE C
  have htr := C.2.2.2.1
  have ho : HO k := C.2.2.2.2
  obtain ⟨h1, h2⟩ := hP
  refine t_al 0 X dJ0_length_8abf5_0 rfl rfl ?_
  refine t_sval h1 X ho (qW_at 1301 (by decide +kernel) rfl) dJ0_length_8abf5_1 (fun va hva => ?_)
  refine t_tlen (v := I ((qsl.getD j 0 : Nat) : Int)) X ho hva (I_nat _) dJ0_length_8abf5_4 ?_
  refine t_al 0 X dJ0_length_8abf5_5 rfl rfl ?_
  refine e_callV (st := [.int (I ((qsl.getD j 0 : Nat) : Int))]) (rok fun v m1 => v = some (.int 0) ∧ mm = m1) (C := RJ0) X hT htr (E_J0_coder_7d493 j) lk_J0_coder_7d493 im_J0_coder_7d493 (qW_at 771 (by decide +kernel) rfl) (qW_at 769 (by decide +kernel) rfl) (t_srecv X h1) rfl rfl (by rw [hR]; exact ⟨Nat.le_of_ble_eq_true rfl, Nat.le_of_ble_eq_true rfl⟩) (by exact Nat.le_of_ble_eq_true rfl) (by rw [hR]; exact ⟨Nat.le_of_ble_eq_true rfl, Nat.le_of_ble_eq_true rfl⟩) dJ0_length_8abf5_6 (by rfl) (⟨h1, _, rfl, rfl, rfl⟩) (fun _ _ h => rok_x h) (fun v m1 h => ?_)
  obtain ⟨_, hv0, rfl, rfl⟩ := h
  cases hv0
  refine g_ishr X dJ0_length_8abf5_9 ?_
  rw [shr0]
  exact e_iret X C hr rfl dJ0_length_8abf5_10 (by rw [hR]; exact Nat.le_of_ble_eq_true rfl) (by rw [hR]; exact Nat.le_of_ble_eq_true rfl) (h2)
abbrev cJ0_getBytes_840e7 : ByteArray := prog_21_method_147_code
def yJ0_getBytes_840e7 : MethodName := ⟨RJ0, "getBytes", "([BIB)V"⟩
theorem lk_J0_getBytes_840e7 : LK yJ0_getBytes_840e7 cJ0_getBytes_840e7 4 none 3 := ⟨(qW_at 805 (by decide +kernel) rfl), (qW_at 49 (by decide +kernel) rfl), by decide, by decide, by decide +kernel⟩
theorem im_J0_getBytes_840e7 : Cond.instanceMethod yJ0_getBytes_840e7 ∈ qW := (qW_at 803 (by decide +kernel) rfl)
theorem dJ0_getBytes_840e7_0 : decode cJ0_getBytes_840e7 0 = .ok (.aload_n 0, 1) := by decide +kernel
theorem dJ0_getBytes_840e7_1 : decode cJ0_getBytes_840e7 1 = .ok (.invokevirtual 335, 3) := by decide +kernel
theorem dJ0_getBytes_840e7_4 : decode cJ0_getBytes_840e7 4 = .ok (.iload_n 3, 1) := by decide +kernel
theorem dJ0_getBytes_840e7_5 : decode cJ0_getBytes_840e7 5 = .ok (.if_icmp .ne 23, 3) := by decide +kernel
theorem dJ0_getBytes_840e7_8 : decode cJ0_getBytes_840e7 8 = .ok (.aload_n 0, 1) := by decide +kernel
theorem dJ0_getBytes_840e7_9 : decode cJ0_getBytes_840e7 9 = .ok (.getfield 9, 3) := by decide +kernel
theorem dJ0_getBytes_840e7_12 : decode cJ0_getBytes_840e7 12 = .ok (.iconst 0, 1) := by decide +kernel
theorem dJ0_getBytes_840e7_13 : decode cJ0_getBytes_840e7 13 = .ok (.aload_n 1, 1) := by decide +kernel
theorem dJ0_getBytes_840e7_14 : decode cJ0_getBytes_840e7 14 = .ok (.iload_n 2, 1) := by decide +kernel
theorem dJ0_getBytes_840e7_15 : decode cJ0_getBytes_840e7 15 = .ok (.iload_n 3, 1) := by decide +kernel
theorem dJ0_getBytes_840e7_16 : decode cJ0_getBytes_840e7 16 = .ok (.ishl, 1) := by decide +kernel
theorem dJ0_getBytes_840e7_17 : decode cJ0_getBytes_840e7 17 = .ok (.aload_n 0, 1) := by decide +kernel
theorem dJ0_getBytes_840e7_18 : decode cJ0_getBytes_840e7 18 = .ok (.getfield 9, 3) := by decide +kernel
theorem dJ0_getBytes_840e7_21 : decode cJ0_getBytes_840e7 21 = .ok (.arraylength, 1) := by decide +kernel
theorem dJ0_getBytes_840e7_22 : decode cJ0_getBytes_840e7 22 = .ok (.invokestatic 212, 3) := by decide +kernel
theorem dJ0_getBytes_840e7_25 : decode cJ0_getBytes_840e7 25 = .ok (.goto 18, 3) := by decide +kernel
theorem dJ0_getBytes_840e7_43 : decode cJ0_getBytes_840e7 43 = .ok (.return_, 1) := by decide +kernel
set_option maxRecDepth 100000 in
set_option maxHeartbeats 400000 in
theorem E_J0_getBytes_840e7 (j a n o : Nat) : ME yJ0_getBytes_840e7 cJ0_getBytes_840e7 4 none 1 40 0 0 (fun DA => [.ref (DA (100 + j)), .ref a, .int (I (o : Int)), .int 0]) (fun DA mm R => j < 7 ∧ qty mm a = (2, 2, n) ∧ (o + qsl.getD j 0 ≤ n ∧ n ≤ 34) ∧ R (.ok none) (sarr mm a (va_cpy (fun y => (qsb.getD j []).getD y 0) (qai mm a) 0 o (qsl.getD j 0)))) := by
  refine ME_of (env0 := fun DA => [(0, .ref (DA (100 + j))), (1, .ref a), (2, .int (I (o : Int))), (3, .int 0)]) (by decide) (fun DA => by exact Nat.le_of_ble_eq_true rfl) (fun DA => by rfl) (fun k mm R X C hR hN hr hname hP => ?_)
  have X : CX k cJ0_getBytes_840e7 RJ0 := X
  have hT := TH_ofE C
  have htr := C.2.2.2.1
  have ho : HO k := C.2.2.2.2
  obtain ⟨h1, h2, h3, h4⟩ := hP
  refine t_al 0 X dJ0_getBytes_840e7_0 rfl rfl ?_
  refine e_callV (st := []) (rok fun v m1 => v = some (.int 0) ∧ mm = m1) (C := RJ0) X hT htr (E_J0_coder_7d493 j) lk_J0_coder_7d493 im_J0_coder_7d493 (qW_at 771 (by decide +kernel) rfl) (qW_at 769 (by decide +kernel) rfl) (t_srecv X h1) rfl rfl (by rw [hR]; exact ⟨Nat.le_of_ble_eq_true rfl, Nat.le_of_ble_eq_true rfl⟩) (by exact Nat.le_of_ble_eq_true rfl) (by rw [hR]; exact ⟨Nat.le_of_ble_eq_true rfl, Nat.le_of_ble_eq_true rfl⟩) dJ0_getBytes_840e7_1 (by rfl) (⟨h1, _, rfl, rfl, rfl⟩) (fun _ _ h => rok_x h) (fun v m1 h => ?_)
  obtain ⟨_, hv0, rfl, rfl⟩ := h
  cases hv0
  refine g_iload_n 3 X dJ0_getBytes_840e7_4 rfl rfl ?_
  refine t_cneF 28 X dJ0_getBytes_840e7_5 (by decide) rfl ?_
  refine t_al 0 X dJ0_getBytes_840e7_8 rfl rfl ?_
  refine t_sval h1 X ho (qW_at 1301 (by decide +kernel) rfl) dJ0_getBytes_840e7_9 (fun va hva => ?_)
  refine g_iconst (v := I 0) X dJ0_getBytes_840e7_12 rfl ?_
  refine t_al 1 X dJ0_getBytes_840e7_13 rfl rfl ?_
  refine g_iload_n 2 X dJ0_getBytes_840e7_14 rfl rfl ?_
  refine g_iload_n 3 X dJ0_getBytes_840e7_15 rfl rfl ?_
  refine g_ishl X dJ0_getBytes_840e7_16 ?_
  rw [shl0]
  refine t_al 0 X dJ0_getBytes_840e7_17 rfl rfl ?_
  refine t_sval h1 X ho (qW_at 1301 (by decide +kernel) rfl) dJ0_getBytes_840e7_18 (fun vb hvb => ?_)
  refine t_tlen (v := I ((qsl.getD j 0 : Nat) : Int)) X ho hvb (I_nat _) dJ0_getBytes_840e7_21 ?_
  have hle := WL_le j h1
  have e1 : (I (o : Int)).toNatClampNeg = o := by rw [clamp_I (by omega) (by omega)]; omega
  have e2 : (I ((qsl.getD j 0 : Nat) : Int)).toNatClampNeg = qsl.getD j 0 := by rw [clamp_I (by omega) (by omega)]; omega
  have e3 : (I 0).toNatClampNeg = 0 := by decide
  have nn : ∀ z : Int, 0 ≤ z → z < 100 → ¬ I z < 0 := fun z z0 z1 => by rw [show (0 : Int32) = I 0 from rfl, I_lt (by omega) (by omega) (by omega) (by omega)]; omega
  refine t_copy (f := fun y => (qsb.getD j []).getD y 0) (n0 := qsl.getD j 0) (n1 := n) X (qW_at 806 (by decide +kernel) rfl) (fun H z hH => (hva.kept (H1 := H) (fun q g1 g2 => (hH.2.2.1 q (Nat.not_le.mp g2)).trans (ho q (Nat.not_le.mp g2)).symm)).narrow (fun _ f => f.elim)) h2 (nn _ (by omega) (by omega)) (nn _ (by omega) (by omega)) (nn _ (by omega) (by omega)) (by rw [e3, e2]; omega) (by rw [e1, e2]; omega) (fun y hy => ?_) (by rw [hR]; exact Nat.le_of_ble_eq_true rfl) (by rw [hR]; exact Nat.le_of_ble_eq_true rfl) dJ0_getBytes_840e7_22 ?_
  · rw [e2] at hy
    have g := WL_at j h1 y hy
    rw [e3, show 0 + y = y from by omega, ← g.1]
    exact (fb_I g.2.1 g.2.2).1
  rw [e1, e2, e3]
  refine g_goto (tgt := 43) X dJ0_getBytes_840e7_25 (by decide) ?_
  exact e_vret X C hr dJ0_getBytes_840e7_43 (by rw [hR]; exact Nat.le_of_ble_eq_true rfl) (by rw [hR]; exact Nat.le_of_ble_eq_true rfl) (h4)
abbrev cJ5_inflateIfNeededFor_a7421 : ByteArray := prog_10_method_71_code
def yJ5_inflateIfNeededFor_a7421 : MethodName := ⟨RJ5, "inflateIfNeededFor", "(Ljava/lang/String;)V"⟩
theorem lk_J5_inflateIfNeededFor_a7421 : LK yJ5_inflateIfNeededFor_a7421 cJ5_inflateIfNeededFor_a7421 2 none 1 := ⟨(qW_at 781 (by decide +kernel) rfl), (qW_at 47 (by decide +kernel) rfl), by decide, by decide, by decide +kernel⟩
theorem im_J5_inflateIfNeededFor_a7421 : Cond.instanceMethod yJ5_inflateIfNeededFor_a7421 ∈ qW := (qW_at 780 (by decide +kernel) rfl)
theorem pr_J5_inflateIfNeededFor_a7421 : Cond.privateMethod yJ5_inflateIfNeededFor_a7421 ∈ qN := (qN_at 779 (by decide +kernel) rfl)
theorem sm_J5_inflateIfNeededFor_a7421 : Cond.sameMethod yJ5_inflateIfNeededFor_a7421.cls yJ5_inflateIfNeededFor_a7421.cls yJ5_inflateIfNeededFor_a7421.name yJ5_inflateIfNeededFor_a7421.desc ∈ qW := (qW_at 1295 (by decide +kernel) rfl)
theorem dJ5_inflateIfNeededFor_a7421_0 : decode cJ5_inflateIfNeededFor_a7421 0 = .ok (.getstatic 18, 3) := by decide +kernel
theorem dJ5_inflateIfNeededFor_a7421_3 : decode cJ5_inflateIfNeededFor_a7421 3 = .ok (.ifCond .eq 18, 3) := by decide +kernel
theorem dJ5_inflateIfNeededFor_a7421_6 : decode cJ5_inflateIfNeededFor_a7421 6 = .ok (.aload_n 0, 1) := by decide +kernel
theorem dJ5_inflateIfNeededFor_a7421_7 : decode cJ5_inflateIfNeededFor_a7421 7 = .ok (.getfield 22, 3) := by decide +kernel
theorem dJ5_inflateIfNeededFor_a7421_10 : decode cJ5_inflateIfNeededFor_a7421 10 = .ok (.aload_n 1, 1) := by decide +kernel
theorem dJ5_inflateIfNeededFor_a7421_11 : decode cJ5_inflateIfNeededFor_a7421 11 = .ok (.invokevirtual 40, 3) := by decide +kernel
theorem dJ5_inflateIfNeededFor_a7421_14 : decode cJ5_inflateIfNeededFor_a7421 14 = .ok (.if_icmp .eq 7, 3) := by decide +kernel
theorem dJ5_inflateIfNeededFor_a7421_21 : decode cJ5_inflateIfNeededFor_a7421 21 = .ok (.return_, 1) := by decide +kernel
set_option maxRecDepth 100000 in
set_option maxHeartbeats 400000 in
theorem E_J5_inflateIfNeededFor_a7421 (q j : Nat) : ME yJ5_inflateIfNeededFor_a7421 cJ5_inflateIfNeededFor_a7421 2 none 1 20 0 0 (fun DA => [.ref q, .ref (DA (100 + j))]) (fun DA mm R => qty mm q = (1, 0, 0) ∧ qfi mm 1 q = 0 ∧ j < 7 ∧ R (.ok none) mm) := by
  refine ME_of (env0 := fun DA => [(0, .ref q), (1, .ref (DA (100 + j)))]) (by decide) (fun DA => by exact Nat.le_of_ble_eq_true rfl) (fun DA => by rfl) (fun k mm R X C hR hN hr hname hP => ?_)
  have X : CX k cJ5_inflateIfNeededFor_a7421 RJ5 := X
  have hT := TH_ofE C
  have htr := C.2.2.2.1
  have ho : HO k := C.2.2.2.2
  obtain ⟨h1, h2, h3, h4⟩ := hP
  refine t_compact X ho (qW_at 663 (by decide +kernel) rfl) dJ5_inflateIfNeededFor_a7421_0 ?_
  refine t_eqF 21 X dJ5_inflateIfNeededFor_a7421_3 (by decide) (by decide) ?_
  refine t_al 0 X dJ5_inflateIfNeededFor_a7421_6 rfl rfl ?_
  refine t_sbi (j := 1) X (by decide) (qW_at 673 (by decide +kernel) rfl) rfl dJ5_inflateIfNeededFor_a7421_7 h1 h2 ?_
  refine t_al 1 X dJ5_inflateIfNeededFor_a7421_10 rfl rfl ?_
  refine e_callV (st := [.int 0]) (rok fun v m1 => v = some (.int 0) ∧ mm = m1) (C := RJ0) X hT htr (E_J0_coder_7d493 j) lk_J0_coder_7d493 im_J0_coder_7d493 (qW_at 771 (by decide +kernel) rfl) (qW_at 782 (by decide +kernel) rfl) (t_srecv X h3) rfl rfl (by rw [hR]; exact ⟨Nat.le_of_ble_eq_true rfl, Nat.le_of_ble_eq_true rfl⟩) (by exact Nat.le_of_ble_eq_true rfl) (by rw [hR]; exact ⟨Nat.le_of_ble_eq_true rfl, Nat.le_of_ble_eq_true rfl⟩) dJ5_inflateIfNeededFor_a7421_11 (by rfl) (⟨h3, _, rfl, rfl, rfl⟩) (fun _ _ h => rok_x h) (fun v m1 h => ?_)
  obtain ⟨_, hv0, rfl, rfl⟩ := h
  cases hv0
  refine t_ceqT (tgt := 21) X dJ5_inflateIfNeededFor_a7421_14 (by decide) rfl ?_
  exact e_vret X C hr dJ5_inflateIfNeededFor_a7421_21 (by rw [hR]; exact Nat.le_of_ble_eq_true rfl) (by rw [hR]; exact Nat.le_of_ble_eq_true rfl) (h4)
abbrev cJ5_putStringAt_47b60 : ByteArray := prog_10_method_73_code
def yJ5_putStringAt_47b60 : MethodName := ⟨RJ5, "putStringAt", "(ILjava/lang/String;)V"⟩
theorem lk_J5_putStringAt_47b60 : LK yJ5_putStringAt_47b60 cJ5_putStringAt_47b60 3 none 2 := ⟨(qW_at 777 (by decide +kernel) rfl), (qW_at 47 (by decide +kernel) rfl), by decide, by decide, by decide +kernel⟩
theorem im_J5_putStringAt_47b60 : Cond.instanceMethod yJ5_putStringAt_47b60 ∈ qW := (qW_at 776 (by decide +kernel) rfl)
theorem pr_J5_putStringAt_47b60 : Cond.privateMethod yJ5_putStringAt_47b60 ∈ qN := (qN_at 775 (by decide +kernel) rfl)
theorem sm_J5_putStringAt_47b60 : Cond.sameMethod yJ5_putStringAt_47b60.cls yJ5_putStringAt_47b60.cls yJ5_putStringAt_47b60.name yJ5_putStringAt_47b60.desc ∈ qW := (qW_at 1294 (by decide +kernel) rfl)
theorem dJ5_putStringAt_47b60_0 : decode cJ5_putStringAt_47b60 0 = .ok (.aload_n 0, 1) := by decide +kernel
theorem dJ5_putStringAt_47b60_1 : decode cJ5_putStringAt_47b60 1 = .ok (.aload_n 2, 1) := by decide +kernel
theorem dJ5_putStringAt_47b60_2 : decode cJ5_putStringAt_47b60 2 = .ok (.invokevirtual 397, 3) := by decide +kernel
theorem dJ5_putStringAt_47b60_5 : decode cJ5_putStringAt_47b60 5 = .ok (.aload_n 2, 1) := by decide +kernel
theorem dJ5_putStringAt_47b60_6 : decode cJ5_putStringAt_47b60 6 = .ok (.aload_n 0, 1) := by decide +kernel
theorem dJ5_putStringAt_47b60_7 : decode cJ5_putStringAt_47b60 7 = .ok (.getfield 15, 3) := by decide +kernel
theorem dJ5_putStringAt_47b60_10 : decode cJ5_putStringAt_47b60 10 = .ok (.iload_n 1, 1) := by decide +kernel
theorem dJ5_putStringAt_47b60_11 : decode cJ5_putStringAt_47b60 11 = .ok (.aload_n 0, 1) := by decide +kernel
theorem dJ5_putStringAt_47b60_12 : decode cJ5_putStringAt_47b60 12 = .ok (.getfield 22, 3) := by decide +kernel
theorem dJ5_putStringAt_47b60_15 : decode cJ5_putStringAt_47b60 15 = .ok (.invokevirtual 399, 3) := by decide +kernel
theorem dJ5_putStringAt_47b60_18 : decode cJ5_putStringAt_47b60 18 = .ok (.return_, 1) := by decide +kernel
set_option maxRecDepth 100000 in
set_option maxHeartbeats 400000 in
theorem E_J5_putStringAt_47b60 (q a n o j : Nat) : ME yJ5_putStringAt_47b60 cJ5_putStringAt_47b60 3 none 2 63 0 0 (fun DA => [.ref q, .int (I (o : Int)), .ref (DA (100 + j))]) (fun DA mm R => qty mm q = (1, 0, 0) ∧ qfi mm 1 q = 0 ∧ qfr mm 0 q = some a ∧ j < 7 ∧ qty mm a = (2, 2, n) ∧ (o + qsl.getD j 0 ≤ n ∧ n ≤ 34) ∧ R (.ok none) (sarr mm a (va_cpy (fun y => (qsb.getD j []).getD y 0) (qai mm a) 0 o (qsl.getD j 0)))) := by
  refine ME_of (env0 := fun DA => [(0, .ref q), (1, .int (I (o : Int))), (2, .ref (DA (100 + j)))]) (by decide) (fun DA => by exact Nat.le_of_ble_eq_true rfl) (fun DA => by rfl) (fun k mm R X C hR hN hr hname hP => ?_)
  have X : CX k cJ5_putStringAt_47b60 RJ5 := X
  have hT := TH_ofE C
  have htr := C.2.2.2.1
  have ho : HO k := C.2.2.2.2
  obtain ⟨h1, h2, h3, h4, h5, h6, h7⟩ := hP
  refine t_al 0 X dJ5_putStringAt_47b60_0 rfl rfl ?_
  refine t_al 2 X dJ5_putStringAt_47b60_1 rfl rfl ?_
  refine e_callP (st := []) (rok fun v m1 => v = none ∧ mm = m1) X hT htr (E_J5_inflateIfNeededFor_a7421 q j) lk_J5_inflateIfNeededFor_a7421 im_J5_inflateIfNeededFor_a7421 pr_J5_inflateIfNeededFor_a7421 sm_J5_inflateIfNeededFor_a7421 (qW_at 778 (by decide +kernel) rfl) h1 rfl rfl (by rw [hR]; exact ⟨Nat.le_of_ble_eq_true rfl, Nat.le_of_ble_eq_true rfl⟩) (by exact Nat.le_of_ble_eq_true rfl) (by rw [hR]; exact ⟨Nat.le_of_ble_eq_true rfl, Nat.le_of_ble_eq_true rfl⟩) dJ5_putStringAt_47b60_2 (by rfl) (⟨h1, h2, h4, _, rfl, rfl, rfl⟩) (fun _ _ h => rok_x h) (fun v m1 h => ?_)
  obtain ⟨_, hv0, rfl, rfl⟩ := h
  cases hv0
  refine t_al 2 X dJ5_putStringAt_47b60_5 rfl rfl ?_
  refine t_al 0 X dJ5_putStringAt_47b60_6 rfl rfl ?_
  refine t_sbr X (qW_at 672 (by decide +kernel) rfl) dJ5_putStringAt_47b60_7 h1 h3 ?_
  refine g_iload_n 1 X dJ5_putStringAt_47b60_10 rfl rfl ?_
  refine t_al 0 X dJ5_putStringAt_47b60_11 rfl rfl ?_
  refine t_sbi (j := 1) X (by decide) (qW_at 673 (by decide +kernel) rfl) rfl dJ5_putStringAt_47b60_12 h1 h2 ?_
  refine e_callV (st := []) (rok fun v m1 => v = none ∧ m1 = sarr mm a (va_cpy (fun y => (qsb.getD j []).getD y 0) (qai mm a) 0 o (qsl.getD j 0))) (C := RJ0) X hT htr (E_J0_getBytes_840e7 j a n o) lk_J0_getBytes_840e7 im_J0_getBytes_840e7 (qW_at 804 (by decide +kernel) rfl) (qW_at 802 (by decide +kernel) rfl) (t_srecv X h4) rfl rfl (by rw [hR]; exact ⟨Nat.le_of_ble_eq_true rfl, Nat.le_of_ble_eq_true rfl⟩) (by exact Nat.le_of_ble_eq_true rfl) (by rw [hR]; exact ⟨Nat.le_of_ble_eq_true rfl, Nat.le_of_ble_eq_true rfl⟩) dJ5_putStringAt_47b60_15 (by rfl) (⟨h4, h5, h6, _, rfl, rfl, rfl⟩) (fun _ _ h => rok_x h) (fun v m1 h => ?_)
  obtain ⟨_, hv0, rfl, rfl⟩ := h
  cases hv0
  exact e_vret X C hr dJ5_putStringAt_47b60_18 (by rw [hR]; exact Nat.le_of_ble_eq_true rfl) (by rw [hR]; exact Nat.le_of_ble_eq_true rfl) (h7)
abbrev cJ5_append_cf1ce : ByteArray := prog_10_method_22_code
def yJ5_append_cf1ce : MethodName := ⟨RJ5, "append", "(Ljava/lang/String;)Ljava/lang/AbstractStringBuilder;"⟩
theorem lk_J5_append_cf1ce : LK yJ5_append_cf1ce cJ5_append_cf1ce 3 (some (.object "java/lang/AbstractStringBuilder")) 1 := ⟨(qW_at 696 (by decide +kernel) rfl), (qW_at 47 (by decide +kernel) rfl), by decide, by decide, by decide +kernel⟩
theorem im_J5_append_cf1ce : Cond.instanceMethod yJ5_append_cf1ce ∈ qW := (qW_at 695 (by decide +kernel) rfl)
theorem sm_J5_append_cf1ce : Cond.sameMethod yJ5_append_cf1ce.cls yJ5_append_cf1ce.cls yJ5_append_cf1ce.name yJ5_append_cf1ce.desc ∈ qW := (qW_at 1290 (by decide +kernel) rfl)
theorem dJ5_append_cf1ce_0 : decode cJ5_append_cf1ce 0 = .ok (.aload_n 1, 1) := by decide +kernel
theorem dJ5_append_cf1ce_1 : decode cJ5_append_cf1ce 1 = .ok (.ifnonnull 8, 3) := by decide +kernel
theorem dJ5_append_cf1ce_9 : decode cJ5_append_cf1ce 9 = .ok (.aload_n 1, 1) := by decide +kernel
theorem dJ5_append_cf1ce_10 : decode cJ5_append_cf1ce 10 = .ok (.invokevirtual 32, 3) := by decide +kernel
theorem dJ5_append_cf1ce_13 : decode cJ5_append_cf1ce 13 = .ok (.istore_n 2, 1) := by decide +kernel
theorem dJ5_append_cf1ce_14 : decode cJ5_append_cf1ce 14 = .ok (.aload_n 0, 1) := by decide +kernel
theorem dJ5_append_cf1ce_15 : decode cJ5_append_cf1ce 15 = .ok (.aload_n 0, 1) := by decide +kernel
theorem dJ5_append_cf1ce_16 : decode cJ5_append_cf1ce 16 = .ok (.getfield 79, 3) := by decide +kernel
theorem dJ5_append_cf1ce_19 : decode cJ5_append_cf1ce 19 = .ok (.iload_n 2, 1) := by decide +kernel
theorem dJ5_append_cf1ce_20 : decode cJ5_append_cf1ce 20 = .ok (.iadd, 1) := by decide +kernel
theorem dJ5_append_cf1ce_21 : decode cJ5_append_cf1ce 21 = .ok (.invokevirtual 100, 3) := by decide +kernel
theorem dJ5_append_cf1ce_24 : decode cJ5_append_cf1ce 24 = .ok (.aload_n 0, 1) := by decide +kernel
theorem dJ5_append_cf1ce_25 : decode cJ5_append_cf1ce 25 = .ok (.aload_n 0, 1) := by decide +kernel
theorem dJ5_append_cf1ce_26 : decode cJ5_append_cf1ce 26 = .ok (.getfield 79, 3) := by decide +kernel
theorem dJ5_append_cf1ce_29 : decode cJ5_append_cf1ce 29 = .ok (.aload_n 1, 1) := by decide +kernel
theorem dJ5_append_cf1ce_30 : decode cJ5_append_cf1ce 30 = .ok (.invokevirtual 208, 3) := by decide +kernel
theorem dJ5_append_cf1ce_33 : decode cJ5_append_cf1ce 33 = .ok (.aload_n 0, 1) := by decide +kernel
theorem dJ5_append_cf1ce_34 : decode cJ5_append_cf1ce 34 = .ok (.dup, 1) := by decide +kernel
theorem dJ5_append_cf1ce_35 : decode cJ5_append_cf1ce 35 = .ok (.getfield 79, 3) := by decide +kernel
theorem dJ5_append_cf1ce_38 : decode cJ5_append_cf1ce 38 = .ok (.iload_n 2, 1) := by decide +kernel
theorem dJ5_append_cf1ce_39 : decode cJ5_append_cf1ce 39 = .ok (.iadd, 1) := by decide +kernel
theorem dJ5_append_cf1ce_40 : decode cJ5_append_cf1ce 40 = .ok (.putfield 79, 3) := by decide +kernel
theorem dJ5_append_cf1ce_43 : decode cJ5_append_cf1ce 43 = .ok (.aload_n 0, 1) := by decide +kernel
theorem dJ5_append_cf1ce_44 : decode cJ5_append_cf1ce 44 = .ok (.areturn, 1) := by decide +kernel
set_option maxRecDepth 100000 in
set_option maxHeartbeats 400000 in
theorem E_J5_append_cf1ce (w q : Nat) (L : List Int) (a n j : Nat) : ME yJ5_append_cf1ce cJ5_append_cf1ce 3 (some (.object "java/lang/AbstractStringBuilder")) 4 90 1 34 (fun DA => [.ref q, .ref (DA (100 + j))]) (fun DA mm R => BD w mm q L a n ∧ (j < 7 ∧ L.length + qsl.getD j 0 ≤ 34) ∧ ∀ m' a' n', BD w m' q (L ++ WL j) a' n' → FB w mm m' → R (.ok (some (.ref q))) m') := by
  refine ME_of (env0 := fun DA => [(0, .ref q), (1, .ref (DA (100 + j)))]) (by decide) (fun DA => by exact Nat.le_of_ble_eq_true rfl) (fun DA => by rfl) (fun k mm R X C hR hN hr hname hP => ?_)
  have X : CX k cJ5_append_cf1ce RJ5 := X
  have hT := TH_ofE C
  have htr := C.2.2.2.1
  have ho : HO k := C.2.2.2.2
  obtain ⟨hB, ⟨hj, hl⟩, h⟩ := hP
  obtain ⟨⟨b1, b2, b3, b4, b5⟩, b6, b7, b8, b9, b10, ⟨b11, b12⟩, b13, b14, b15⟩ := id hB
  refine t_al 1 X dJ5_append_cf1ce_0 rfl rfl ?_
  refine t_nn X dJ5_append_cf1ce_1 (tgt := 9) (by decide) ?_
  refine t_al 1 X dJ5_append_cf1ce_9 rfl rfl ?_
  refine e_callV (st := []) (rok fun v m1 => v = some (.int (I ((qsl.getD j 0 : Nat) : Int))) ∧ mm = m1) (C := RJ0) X hT htr (E_J0_length_8abf5 j) lk_J0_length_8abf5 im_J0_length_8abf5 (qW_at 767 (by decide +kernel) rfl) (qW_at 765 (by decide +kernel) rfl) (t_srecv X hj) rfl rfl (by rw [hR]; exact ⟨Nat.le_of_ble_eq_true rfl, Nat.le_of_ble_eq_true rfl⟩) (by exact Nat.le_of_ble_eq_true rfl) (by rw [hR]; exact ⟨Nat.le_of_ble_eq_true rfl, Nat.le_of_ble_eq_true rfl⟩) dJ5_append_cf1ce_10 (by rfl) (⟨hj, _, rfl, rfl, rfl⟩) (fun _ _ h => rok_x h) (fun v m1 h => ?_)
  obtain ⟨_, hv0, rfl, rfl⟩ := h
  cases hv0
  refine g_istore_n (env' := [(2, .int (I ((qsl.getD j 0 : Nat) : Int))), (0, .ref q), (1, .ref (kDA k (100 + j)))]) X dJ5_append_cf1ce_13 rfl (by rw [hN]; decide) rfl ?_
  refine t_al 1 X dJ5_append_cf1ce_14 rfl rfl ?_
  refine t_al 1 X dJ5_append_cf1ce_15 rfl rfl ?_
  refine t_sbi (j := 3) X (by decide) (qW_at 674 (by decide +kernel) rfl) rfl dJ5_append_cf1ce_16 b6 b9 ?_
  refine g_iload_n 0 X dJ5_append_cf1ce_19 rfl rfl ?_
  refine g_iadd X dJ5_append_cf1ce_20 ?_
  rw [I_add]
  refine e_callP (st := []) (rok fun v m1 => v = none ∧ ∃ a2 n2, BD w m1 q L a2 n2 ∧ (L.length : Int) + ((qsl.getD j 0 : Nat) : Int) ≤ n2 ∧ FB w mm m1) X hT htr (E_J5_ensureCapacityInternal_d00df w q L a n ((L.length : Int) + ((qsl.getD j 0 : Nat) : Int))) lk_J5_ensureCapacityInternal_d00df im_J5_ensureCapacityInternal_d00df pr_J5_ensureCapacityInternal_d00df sm_J5_ensureCapacityInternal_d00df (qW_at 701 (by decide +kernel) rfl) b6 rfl rfl (by rw [hR]; exact ⟨Nat.le_of_ble_eq_true rfl, Nat.le_of_ble_eq_true rfl⟩) (by exact Nat.le_of_ble_eq_true rfl) (by rw [hR]; exact ⟨Nat.le_of_ble_eq_true rfl, Nat.le_of_ble_eq_true rfl⟩) dJ5_append_cf1ce_21 (by rfl) (⟨hB, ⟨by omega, by omega⟩, fun m' a' n' g1 g2 g3 => ⟨_, rfl, rfl, a', n', g1, g2, g3⟩⟩) (fun _ _ h => rok_x h) (fun v m1a h => ?_)
  obtain ⟨_, hv0, rfl, a2, n2, hB2, hn2, hF2⟩ := h
  cases hv0
  clear b1 b2 b3 b4 b5 b7 b8 b9 b10 b11 b12 b13 b14 b15
  obtain ⟨⟨b1, b2, b3, b4, b5⟩, b6, b7, b8, b9, b10, ⟨b11, b12⟩, b13, b14, b15⟩ := id hB2
  have hg := hB2.text hj (by omega)
  refine t_al 1 X dJ5_append_cf1ce_24 rfl rfl ?_
  refine t_al 1 X dJ5_append_cf1ce_25 rfl rfl ?_
  refine t_sbi (j := 3) X (by decide) (qW_at 674 (by decide +kernel) rfl) rfl dJ5_append_cf1ce_26 b6 b9 ?_
  refine t_al 2 X dJ5_append_cf1ce_29 rfl rfl ?_
  refine e_callP (st := []) (rok fun v m1 => v = none ∧ m1 = sarr m1a a2 (va_cpy (fun y => (qsb.getD j []).getD y 0) (qai m1a a2) 0 L.length (qsl.getD j 0))) X hT htr (E_J5_putStringAt_47b60 q a2 n2 L.length j) lk_J5_putStringAt_47b60 im_J5_putStringAt_47b60 pr_J5_putStringAt_47b60 sm_J5_putStringAt_47b60 (qW_at 774 (by decide +kernel) rfl) b6 rfl rfl (by rw [hR]; exact ⟨Nat.le_of_ble_eq_true rfl, Nat.le_of_ble_eq_true rfl⟩) (by exact Nat.le_of_ble_eq_true rfl) (by rw [hR]; exact ⟨Nat.le_of_ble_eq_true rfl, Nat.le_of_ble_eq_true rfl⟩) dJ5_append_cf1ce_30 (by rfl) (⟨b6, b8, b7, hj, b10, ⟨by omega, by omega⟩, _, rfl, rfl, rfl⟩) (fun _ _ h => rok_x h) (fun v m1 h => ?_)
  obtain ⟨_, hv0, rfl, rfl⟩ := h
  cases hv0
  refine t_al 1 X dJ5_append_cf1ce_33 rfl rfl ?_
  refine t_dup X dJ5_append_cf1ce_34 ?_
  refine t_sbi (j := 3) X (by decide) (qW_at 674 (by decide +kernel) rfl) rfl dJ5_append_cf1ce_35 b6 b9 ?_
  refine g_iload_n 0 X dJ5_append_cf1ce_38 rfl rfl ?_
  refine g_iadd X dJ5_append_cf1ce_39 ?_
  rw [I_add]
  rw [show (L.length : Int) + ((qsl.getD j 0 : Nat) : Int) = (((L ++ WL j).length : Nat) : Int) from by rw [List.length_append, WL_len j hj]; omega]
  refine t_sbpc X (qW_at 674 (by decide +kernel) rfl) dJ5_append_cf1ce_40 b6 ?_
  refine t_al 1 X dJ5_append_cf1ce_43 rfl rfl ?_
  exact e_aret X C hr (Or.inl ⟨_, rfl⟩) dJ5_append_cf1ce_44 (by rw [hR]; exact Nat.le_of_ble_eq_true rfl) (by rw [hR]; exact Nat.le_of_ble_eq_true rfl) (h _ a2 n2 hg.1 (hF2.trans hg.2))
abbrev cJ4_append_15ec4 : ByteArray := prog_22_method_7_code
def yJ4_append_15ec4 : MethodName := ⟨RJ4, "append", "(Ljava/lang/String;)Ljava/lang/StringBuilder;"⟩
theorem lk_J4_append_15ec4 : LK yJ4_append_15ec4 cJ4_append_15ec4 2 (some (.object "java/lang/StringBuilder")) 1 := ⟨(qW_at 693 (by decide +kernel) rfl), (qW_at 48 (by decide +kernel) rfl), by decide, by decide, by decide +kernel⟩
theorem im_J4_append_15ec4 : Cond.instanceMethod yJ4_append_15ec4 ∈ qW := (qW_at 691 (by decide +kernel) rfl)
theorem dJ4_append_15ec4_0 : decode cJ4_append_15ec4 0 = .ok (.aload_n 0, 1) := by decide +kernel
theorem dJ4_append_15ec4_1 : decode cJ4_append_15ec4 1 = .ok (.aload_n 1, 1) := by decide +kernel
theorem dJ4_append_15ec4_2 : decode cJ4_append_15ec4 2 = .ok (.invokespecial 29, 3) := by decide +kernel
theorem dJ4_append_15ec4_5 : decode cJ4_append_15ec4 5 = .ok (.pop, 1) := by decide +kernel
theorem dJ4_append_15ec4_6 : decode cJ4_append_15ec4 6 = .ok (.aload_n 0, 1) := by decide +kernel
theorem dJ4_append_15ec4_7 : decode cJ4_append_15ec4 7 = .ok (.areturn, 1) := by decide +kernel
set_option maxRecDepth 100000 in
set_option maxHeartbeats 400000 in
theorem E_J4_append_15ec4 (w q : Nat) (L : List Int) (a n j : Nat) : ME yJ4_append_15ec4 cJ4_append_15ec4 2 (some (.object "java/lang/StringBuilder")) 5 112 1 34 (fun DA => [.ref q, .ref (DA (100 + j))]) (fun DA mm R => BD w mm q L a n ∧ (j < 7 ∧ L.length + qsl.getD j 0 ≤ 34) ∧ ∀ m' a' n', BD w m' q (L ++ WL j) a' n' → FB w mm m' → R (.ok (some (.ref q))) m') := by
  refine ME_of (env0 := fun DA => [(0, .ref q), (1, .ref (DA (100 + j)))]) (by decide) (fun DA => by exact Nat.le_of_ble_eq_true rfl) (fun DA => by rfl) (fun k mm R X C hR hN hr hname hP => ?_)
  have X : CX k cJ4_append_15ec4 RJ4 := X
  have hT := TH_ofE C
  have htr := C.2.2.2.1
  have ho : HO k := C.2.2.2.2
  obtain ⟨hB, hj, h⟩ := hP
  refine t_al 0 X dJ4_append_15ec4_0 rfl rfl ?_
  refine t_al 1 X dJ4_append_15ec4_1 rfl rfl ?_
  refine e_callU (st := []) (rok fun v m1 => v = some (.ref q) ∧ ∃ a2 n2, BD w m1 q (L ++ WL j) a2 n2 ∧ FB w mm m1) X hT htr (E_J5_append_cf1ce w q L a n j) lk_J5_append_cf1ce im_J5_append_cf1ce sm_J5_append_cf1ce (qW_at 683 (by decide +kernel) rfl) (by decide) (qW_at 694 (by decide +kernel) rfl) hB.2.1 rfl rfl (by rw [hR]; exact ⟨Nat.le_of_ble_eq_true rfl, Nat.le_of_ble_eq_true rfl⟩) (by exact Nat.le_of_ble_eq_true rfl) (by rw [hR]; exact ⟨Nat.le_of_ble_eq_true rfl, Nat.le_of_ble_eq_true rfl⟩) dJ4_append_15ec4_2 (by rfl) (⟨hB, hj, fun m' a' n' g1 g2 => ⟨_, rfl, rfl, a', n', g1, g2⟩⟩) (fun _ _ h => rok_x h) (fun v m1 h => ?_)
  obtain ⟨_, hv0, rfl, a2, n2, hB2, hF2⟩ := h
  cases hv0
  refine g_pop X dJ4_append_15ec4_5 rfl ?_
  refine t_al 0 X dJ4_append_15ec4_6 rfl rfl ?_
  exact e_aret X C hr (Or.inl ⟨_, rfl⟩) dJ4_append_15ec4_7 (by rw [hR]; exact Nat.le_of_ble_eq_true rfl) (by rw [hR]; exact Nat.le_of_ble_eq_true rfl) (h _ a2 n2 hB2 hF2)
abbrev cJ1_canEncode_fc78d : ByteArray := prog_23_method_3_code
def yJ1_canEncode_fc78d : MethodName := ⟨RJ1, "canEncode", "(C)Z"⟩
theorem lk_J1_canEncode_fc78d : LK yJ1_canEncode_fc78d cJ1_canEncode_fc78d 1 (some .boolean) 1 := ⟨(qW_at 817 (by decide +kernel) rfl), (qW_at 54 (by decide +kernel) rfl), by decide, by decide, by decide +kernel⟩
theorem st_J1_canEncode_fc78d : Cond.static yJ1_canEncode_fc78d ∈ qW := (qW_at 816 (by decide +kernel) rfl)
theorem dJ1_canEncode_fc78d_0 : decode cJ1_canEncode_fc78d 0 = .ok (.iload_n 0, 1) := by decide +kernel
theorem dJ1_canEncode_fc78d_1 : decode cJ1_canEncode_fc78d 1 = .ok (.sipush 255, 3) := by decide +kernel
theorem dJ1_canEncode_fc78d_4 : decode cJ1_canEncode_fc78d 4 = .ok (.if_icmp .gt 7, 3) := by decide +kernel
theorem dJ1_canEncode_fc78d_7 : decode cJ1_canEncode_fc78d 7 = .ok (.iconst 1, 1) := by decide +kernel
theorem dJ1_canEncode_fc78d_8 : decode cJ1_canEncode_fc78d 8 = .ok (.goto 4, 3) := by decide +kernel
theorem dJ1_canEncode_fc78d_12 : decode cJ1_canEncode_fc78d 12 = .ok (.ireturn, 1) := by decide +kernel
set_option maxRecDepth 100000 in
set_option maxHeartbeats 400000 in
theorem E_J1_canEncode_fc78d (c : Int) : ME yJ1_canEncode_fc78d cJ1_canEncode_fc78d 1 (some .boolean) 0 0 0 0 (fun DA => [.int (I c)]) (fun DA mm R => (0 ≤ c ∧ c < 128) ∧ R (.ok (some (.int (I 1)))) mm) := by
  refine ME_of (env0 := fun DA => [(0, .int (I c))]) (by decide) (fun DA => by exact Nat.le_of_ble_eq_true rfl) (fun DA => by rfl) (fun k mm R X C hR hN hr hname hP => ?_)
  have X : CX k cJ1_canEncode_fc78d RJ1 := X
  have hT := TH_ofE C
  have htr := C.2.2.2.1
  have ho : HO k := C.2.2.2.2
  obtain ⟨h1, h2⟩ := hP
  refine g_iload_n 0 X dJ1_canEncode_fc78d_0 rfl rfl ?_
  refine g_sipush (v := I 255) X dJ1_canEncode_fc78d_1 (by decide) ?_
  refine t_cgtF 11 X dJ1_canEncode_fc78d_4 (by decide) (by rw [I_lt (by omega) (by omega) (by omega) (by omega)]; omega) ?_
  refine g_iconst (v := I 1) X dJ1_canEncode_fc78d_7 rfl ?_
  refine g_goto (tgt := 12) X dJ1_canEncode_fc78d_8 (by decide) ?_
  exact e_iret X C hr (by decide) dJ1_canEncode_fc78d_12 (by rw [hR]; exact Nat.le_of_ble_eq_true rfl) (by rw [hR]; exact Nat.le_of_ble_eq_true rfl) (h2)
abbrev cJ5_append_3fe6f : ByteArray := prog_10_method_31_code
def yJ5_append_3fe6f : MethodName := ⟨RJ5, "append", "(C)Ljava/lang/AbstractStringBuilder;"⟩
theorem lk_J5_append_3fe6f : LK yJ5_append_3fe6f cJ5_append_3fe6f 2 (some (.object "java/lang/AbstractStringBuilder")) 1 := ⟨(qW_at 814 (by decide +kernel) rfl), (qW_at 47 (by decide +kernel) rfl), by decide, by decide, by decide +kernel⟩
theorem im_J5_append_3fe6f : Cond.instanceMethod yJ5_append_3fe6f ∈ qW := (qW_at 813 (by decide +kernel) rfl)
theorem sm_J5_append_3fe6f : Cond.sameMethod yJ5_append_3fe6f.cls yJ5_append_3fe6f.cls yJ5_append_3fe6f.name yJ5_append_3fe6f.desc ∈ qW := (qW_at 1297 (by decide +kernel) rfl)
theorem dJ5_append_3fe6f_0 : decode cJ5_append_3fe6f 0 = .ok (.aload_n 0, 1) := by decide +kernel
theorem dJ5_append_3fe6f_1 : decode cJ5_append_3fe6f 1 = .ok (.aload_n 0, 1) := by decide +kernel
theorem dJ5_append_3fe6f_2 : decode cJ5_append_3fe6f 2 = .ok (.getfield 79, 3) := by decide +kernel
theorem dJ5_append_3fe6f_5 : decode cJ5_append_3fe6f 5 = .ok (.iconst 1, 1) := by decide +kernel
theorem dJ5_append_3fe6f_6 : decode cJ5_append_3fe6f 6 = .ok (.iadd, 1) := by decide +kernel
theorem dJ5_append_3fe6f_7 : decode cJ5_append_3fe6f 7 = .ok (.invokevirtual 100, 3) := by decide +kernel
theorem dJ5_append_3fe6f_10 : decode cJ5_append_3fe6f 10 = .ok (.aload_n 0, 1) := by decide +kernel
theorem dJ5_append_3fe6f_11 : decode cJ5_append_3fe6f 11 = .ok (.invokevirtual 83, 3) := by decide +kernel
theorem dJ5_append_3fe6f_14 : decode cJ5_append_3fe6f 14 = .ok (.ifCond .eq 31, 3) := by decide +kernel
theorem dJ5_append_3fe6f_17 : decode cJ5_append_3fe6f 17 = .ok (.iload_n 1, 1) := by decide +kernel
theorem dJ5_append_3fe6f_18 : decode cJ5_append_3fe6f 18 = .ok (.invokestatic 191, 3) := by decide +kernel
theorem dJ5_append_3fe6f_21 : decode cJ5_append_3fe6f 21 = .ok (.ifCond .eq 24, 3) := by decide +kernel
theorem dJ5_append_3fe6f_24 : decode cJ5_append_3fe6f 24 = .ok (.aload_n 0, 1) := by decide +kernel
theorem dJ5_append_3fe6f_25 : decode cJ5_append_3fe6f 25 = .ok (.getfield 15, 3) := by decide +kernel
theorem dJ5_append_3fe6f_28 : decode cJ5_append_3fe6f 28 = .ok (.aload_n 0, 1) := by decide +kernel
theorem dJ5_append_3fe6f_29 : decode cJ5_append_3fe6f 29 = .ok (.dup, 1) := by decide +kernel
theorem dJ5_append_3fe6f_30 : decode cJ5_append_3fe6f 30 = .ok (.getfield 79, 3) := by decide +kernel
theorem dJ5_append_3fe6f_33 : decode cJ5_append_3fe6f 33 = .ok (.dup_x1, 1) := by decide +kernel
theorem dJ5_append_3fe6f_34 : decode cJ5_append_3fe6f 34 = .ok (.iconst 1, 1) := by decide +kernel
theorem dJ5_append_3fe6f_35 : decode cJ5_append_3fe6f 35 = .ok (.iadd, 1) := by decide +kernel
theorem dJ5_append_3fe6f_36 : decode cJ5_append_3fe6f 36 = .ok (.putfield 79, 3) := by decide +kernel
theorem dJ5_append_3fe6f_39 : decode cJ5_append_3fe6f 39 = .ok (.iload_n 1, 1) := by decide +kernel
theorem dJ5_append_3fe6f_40 : decode cJ5_append_3fe6f 40 = .ok (.i2b, 1) := by decide +kernel
theorem dJ5_append_3fe6f_41 : decode cJ5_append_3fe6f 41 = .ok (.bastore, 1) := by decide +kernel
theorem dJ5_append_3fe6f_42 : decode cJ5_append_3fe6f 42 = .ok (.goto 33, 3) := by decide +kernel
theorem dJ5_append_3fe6f_75 : decode cJ5_append_3fe6f 75 = .ok (.aload_n 0, 1) := by decide +kernel
theorem dJ5_append_3fe6f_76 : decode cJ5_append_3fe6f 76 = .ok (.areturn, 1) := by decide +kernel
set_option maxRecDepth 100000 in
set_option maxHeartbeats 400000 in
theorem E_J5_append_3fe6f (w q : Nat) (L : List Int) (a n : Nat) (c : Int) : ME yJ5_append_3fe6f cJ5_append_3fe6f 2 (some (.object "java/lang/AbstractStringBuilder")) 4 90 1 34 (fun DA => [.ref q, .int (I c)]) (fun DA mm R => BD w mm q L a n ∧ ((0 ≤ c ∧ c < 128) ∧ L.length + 1 ≤ 34) ∧ ∀ m' a' n', BD w m' q (L ++ [c]) a' n' → FB w mm m' → R (.ok (some (.ref q))) m') := by
  refine ME_of (env0 := fun DA => [(0, .ref q), (1, .int (I c))]) (by decide) (fun DA => by exact Nat.le_of_ble_eq_true rfl) (fun DA => by rfl) (fun k mm R X C hR hN hr hname hP => ?_)
  have X : CX k cJ5_append_3fe6f RJ5 := X
  have hT := TH_ofE C
  have htr := C.2.2.2.1
  have ho : HO k := C.2.2.2.2
  obtain ⟨hB, ⟨hc, hl⟩, h⟩ := hP
  obtain ⟨⟨b1, b2, b3, b4, b5⟩, b6, b7, b8, b9, b10, ⟨b11, b12⟩, b13, b14, b15⟩ := id hB
  refine t_al 0 X dJ5_append_3fe6f_0 rfl rfl ?_
  refine t_al 0 X dJ5_append_3fe6f_1 rfl rfl ?_
  refine t_sbi (j := 3) X (by decide) (qW_at 674 (by decide +kernel) rfl) rfl dJ5_append_3fe6f_2 b6 b9 ?_
  refine g_iconst (v := I 1) X dJ5_append_3fe6f_5 rfl ?_
  refine g_iadd X dJ5_append_3fe6f_6 ?_
  rw [I_add]
  refine e_callP (st := []) (rok fun v m1 => v = none ∧ ∃ a2 n2, BD w m1 q L a2 n2 ∧ (L.length : Int) + 1 ≤ n2 ∧ FB w mm m1) X hT htr (E_J5_ensureCapacityInternal_d00df w q L a n ((L.length : Int) + 1)) lk_J5_ensureCapacityInternal_d00df im_J5_ensureCapacityInternal_d00df pr_J5_ensureCapacityInternal_d00df sm_J5_ensureCapacityInternal_d00df (qW_at 701 (by decide +kernel) rfl) b6 rfl rfl (by rw [hR]; exact ⟨Nat.le_of_ble_eq_true rfl, Nat.le_of_ble_eq_true rfl⟩) (by exact Nat.le_of_ble_eq_true rfl) (by rw [hR]; exact ⟨Nat.le_of_ble_eq_true rfl, Nat.le_of_ble_eq_true rfl⟩) dJ5_append_3fe6f_7 (by rfl) (⟨hB, ⟨by omega, by omega⟩, fun m' a' n' g1 g2 g3 => ⟨_, rfl, rfl, a', n', g1, g2, g3⟩⟩) (fun _ _ h => rok_x h) (fun v m1a h => ?_)
  obtain ⟨_, hv0, rfl, a2, n2, hB2, hn2, hF2⟩ := h
  cases hv0
  clear b1 b2 b3 b4 b5 b7 b8 b9 b10 b11 b12 b13 b14 b15
  obtain ⟨⟨b1, b2, b3, b4, b5⟩, b6, b7, b8, b9, b10, ⟨b11, b12⟩, b13, b14, b15⟩ := id hB2
  have hg := hB2.char hc (by omega)
  refine t_al 0 X dJ5_append_3fe6f_10 rfl rfl ?_
  refine e_callV (st := []) (rok fun v m1 => v = some (.int (I 1)) ∧ m1a = m1) (C := RJ4) X hT htr (E_J5_isLatin1_aae02 q) lk_J5_isLatin1_aae02 im_J5_isLatin1_aae02 (qW_at 737 (by decide +kernel) rfl) (qW_at 734 (by decide +kernel) rfl) (fun H hH => t_recv X rfl b6 hH) rfl rfl (by rw [hR]; exact ⟨Nat.le_of_ble_eq_true rfl, Nat.le_of_ble_eq_true rfl⟩) (by exact Nat.le_of_ble_eq_true rfl) (by rw [hR]; exact ⟨Nat.le_of_ble_eq_true rfl, Nat.le_of_ble_eq_true rfl⟩) dJ5_append_3fe6f_11 (by rfl) (⟨b6, b8, _, rfl, rfl, rfl⟩) (fun _ _ h => rok_x h) (fun v m1 h => ?_)
  obtain ⟨_, hv0, rfl, rfl⟩ := h
  cases hv0
  refine t_eqF 45 X dJ5_append_3fe6f_14 (by decide) (by decide) ?_
  refine g_iload_n 1 X dJ5_append_3fe6f_17 rfl rfl ?_
  refine e_callS (st := []) (rok fun v m1 => v = some (.int (I 1)) ∧ m1a = m1) X hT htr (E_J1_canEncode_fc78d c) lk_J1_canEncode_fc78d st_J1_canEncode_fc78d (qW_at 815 (by decide +kernel) rfl) rfl (by rw [hR]; exact ⟨Nat.le_of_ble_eq_true rfl, Nat.le_of_ble_eq_true rfl⟩) (by exact Nat.le_of_ble_eq_true rfl) (by rw [hR]; exact ⟨Nat.le_of_ble_eq_true rfl, Nat.le_of_ble_eq_true rfl⟩) dJ5_append_3fe6f_18 (by rfl) (⟨hc, _, rfl, rfl, rfl⟩) (fun _ _ h => rok_x h) (fun v m1 h => ?_)
  obtain ⟨_, hv0, rfl, rfl⟩ := h
  cases hv0
  refine t_eqF 45 X dJ5_append_3fe6f_21 (by decide) (by decide) ?_
  refine t_al 0 X dJ5_append_3fe6f_24 rfl rfl ?_
  refine t_sbr X (qW_at 672 (by decide +kernel) rfl) dJ5_append_3fe6f_25 b6 b7 ?_
  refine t_al 0 X dJ5_append_3fe6f_28 rfl rfl ?_
  refine t_dup X dJ5_append_3fe6f_29 ?_
  refine t_sbi (j := 3) X (by decide) (qW_at 674 (by decide +kernel) rfl) rfl dJ5_append_3fe6f_30 b6 b9 ?_
  refine g_dup_x1 X dJ5_append_3fe6f_33 rfl rfl ?_
  refine g_iconst (v := I 1) X dJ5_append_3fe6f_34 rfl ?_
  refine g_iadd X dJ5_append_3fe6f_35 ?_
  rw [I_add]
  refine t_sbpc X (qW_at 674 (by decide +kernel) rfl) dJ5_append_3fe6f_36 b6 ?_
  refine g_iload_n 1 X dJ5_append_3fe6f_39 rfl rfl ?_
  refine g_i2b (v := I c) X dJ5_append_3fe6f_40 (fb_I hc.1 hc.2).2 ?_
  have hcl : (I (L.length : Int)).toNatClampNeg = L.length := by rw [clamp_I (by omega) (by omega)]; omega
  refine g_bast (n := n2) X b10 (fb_I hc.1 hc.2).2 (fun z => ?_) dJ5_append_3fe6f_41 ?_
  · rcases z with z | z
    · rw [show (0 : Int32) = I 0 from rfl, I_lt (by omega) (by omega) (by omega) (by omega)] at z; omega
    · rw [hcl] at z; omega
  rw [hcl]
  refine g_goto (tgt := 75) X dJ5_append_3fe6f_42 (by decide) ?_
  refine t_al 0 X dJ5_append_3fe6f_75 rfl rfl ?_
  exact e_aret X C hr (Or.inl ⟨_, rfl⟩) dJ5_append_3fe6f_76 (by rw [hR]; exact Nat.le_of_ble_eq_true rfl) (by rw [hR]; exact Nat.le_of_ble_eq_true rfl) (h _ a2 n2 hg.1 (hF2.trans hg.2))
abbrev cJ4_append_cf468 : ByteArray := prog_22_method_14_code
def yJ4_append_cf468 : MethodName := ⟨RJ4, "append", "(C)Ljava/lang/StringBuilder;"⟩
theorem lk_J4_append_cf468 : LK yJ4_append_cf468 cJ4_append_cf468 2 (some (.object "java/lang/StringBuilder")) 1 := ⟨(qW_at 811 (by decide +kernel) rfl), (qW_at 48 (by decide +kernel) rfl), by decide, by decide, by decide +kernel⟩
theorem im_J4_append_cf468 : Cond.instanceMethod yJ4_append_cf468 ∈ qW := (qW_at 809 (by decide +kernel) rfl)
theorem dJ4_append_cf468_0 : decode cJ4_append_cf468 0 = .ok (.aload_n 0, 1) := by decide +kernel
theorem dJ4_append_cf468_1 : decode cJ4_append_cf468 1 = .ok (.iload_n 1, 1) := by decide +kernel
theorem dJ4_append_cf468_2 : decode cJ4_append_cf468 2 = .ok (.invokespecial 50, 3) := by decide +kernel
theorem dJ4_append_cf468_5 : decode cJ4_append_cf468 5 = .ok (.pop, 1) := by decide +kernel
theorem dJ4_append_cf468_6 : decode cJ4_append_cf468 6 = .ok (.aload_n 0, 1) := by decide +kernel
theorem dJ4_append_cf468_7 : decode cJ4_append_cf468 7 = .ok (.areturn, 1) := by decide +kernel
set_option maxRecDepth 100000 in
set_option maxHeartbeats 400000 in
theorem E_J4_append_cf468 (w q : Nat) (L : List Int) (a n : Nat) (c : Int) : ME yJ4_append_cf468 cJ4_append_cf468 2 (some (.object "java/lang/StringBuilder")) 5 111 1 34 (fun DA => [.ref q, .int (I c)]) (fun DA mm R => BD w mm q L a n ∧ ((0 ≤ c ∧ c < 128) ∧ L.length + 1 ≤ 34) ∧ ∀ m' a' n', BD w m' q (L ++ [c]) a' n' → FB w mm m' → R (.ok (some (.ref q))) m') := by
  refine ME_of (env0 := fun DA => [(0, .ref q), (1, .int (I c))]) (by decide) (fun DA => by exact Nat.le_of_ble_eq_true rfl) (fun DA => by rfl) (fun k mm R X C hR hN hr hname hP => ?_)
  have X : CX k cJ4_append_cf468 RJ4 := X
  have hT := TH_ofE C
  have htr := C.2.2.2.1
  have ho : HO k := C.2.2.2.2
  obtain ⟨hB, hc, h⟩ := hP
  refine t_al 0 X dJ4_append_cf468_0 rfl rfl ?_
  refine g_iload_n 1 X dJ4_append_cf468_1 rfl rfl ?_
  refine e_callU (st := []) (rok fun v m1 => v = some (.ref q) ∧ ∃ a2 n2, BD w m1 q (L ++ [c]) a2 n2 ∧ FB w mm m1) X hT htr (E_J5_append_3fe6f w q L a n c) lk_J5_append_3fe6f im_J5_append_3fe6f sm_J5_append_3fe6f (qW_at 683 (by decide +kernel) rfl) (by decide) (qW_at 812 (by decide +kernel) rfl) hB.2.1 rfl rfl (by rw [hR]; exact ⟨Nat.le_of_ble_eq_true rfl, Nat.le_of_ble_eq_true rfl⟩) (by exact Nat.le_of_ble_eq_true rfl) (by rw [hR]; exact ⟨Nat.le_of_ble_eq_true rfl, Nat.le_of_ble_eq_true rfl⟩) dJ4_append_cf468_2 (by rfl) (⟨hB, hc, fun m' a' n' g1 g2 => ⟨_, rfl, rfl, a', n', g1, g2⟩⟩) (fun _ _ h => rok_x h) (fun v m1 h => ?_)
  obtain ⟨_, hv0, rfl, a2, n2, hB2, hF2⟩ := h
  cases hv0
  refine g_pop X dJ4_append_cf468_5 rfl ?_
  refine t_al 0 X dJ4_append_cf468_6 rfl rfl ?_
  exact e_aret X C hr (Or.inl ⟨_, rfl⟩) dJ4_append_cf468_7 (by rw [hR]; exact Nat.le_of_ble_eq_true rfl) (by rw [hR]; exact Nat.le_of_ble_eq_true rfl) (h _ a2 n2 hB2 hF2)
