/-! the builder: what it holds; its capacity -/
def rok (K : Option Value → QM → Prop) : RX := fun r m' => ∃ v, r = .ok v ∧ K v m'
theorem rok_x {K : Option Value → QM → Prop} {Z : Prop} {e : Nat} {m' : QM} (h : rok K (.error e) m') : Z := by obtain ⟨_, h0, -⟩ := h; cases h0
theorem sh_and : (0 : Int32) &&& 31 = 0 := by decide
theorem shr0 (x : Int32) : x >>> ((0 : Int32) &&& 31) = x := by rw [sh_and]; exact Int32.shiftRight_zero
theorem shl0 (x : Int32) : x <<< ((0 : Int32) &&& 31) = x := by rw [sh_and]; exact Int32.shiftLeft_zero
theorem t_alen {k : QC} {cc : ByteArray} {own : String} {env : List (Nat × Value)} {st : List Value} {mm : QM} {pc a b q n : Nat} (X : CX k cc own) (hdg : decode cc pc = .ok (.arraylength, 1)) (ht : qty mm q = (2, 2, n)) (h : GG k env (.int (I n) :: st) mm (pc + 1) a b) : GG k env (.ref q :: st) mm pc a b :=
  g_alen X ht (Or.inl ⟨rfl, by decide⟩) hdg (by rw [I_nat]; exact h)
theorem t_src {k : QC} {cc : ByteArray} {own : String} {m : QM} {a n : Nat} (X : CX k cc own) (ht : qty m a = (2, 2, n)) : ∀ H : Heap, (ks k).heap.size ≤ H.size → HR (kD k) (kDA k) (kHs k) m H → va_T .byte a n (fun j => .int (qai m a j)) (fun _ => False) (ks k) H := by
  intro H z hR
  have e := hR.arrP ht
  rw [vp_cell_i] at e
  exact ⟨_, e, (X.arr (t := 2) (by decide)).1 n (fun j => .int (qai m a j)), (fun h => by cases h), Nat.le_of_eq (arrV_size _ _ _).symm, congrArg Nat.toInt32 (arrV_size _ _ _), fun j hj => arrV_read _ _ hj, fun h => h⟩
/-- below w all is as it was -/
def FB (w : Nat) (m m' : QM) : Prop := qtop m ≤ qtop m' ∧ ∀ b, b < w → qty m' b = qty m b ∧ (∀ f, qfi m' f b = qfi m f b) ∧ (∀ f, qfl m' f b = qfl m f b) ∧ (∀ f, qfr m' f b = qfr m f b) ∧ qai m' b = qai m b ∧ qal m' b = qal m b ∧ qar m' b = qar m b
theorem FB.refl (w : Nat) (m : QM) : FB w m m := ⟨Nat.le_refl _, fun _ _ => ⟨rfl, fun _ => rfl, fun _ => rfl, fun _ => rfl, rfl, rfl, rfl⟩⟩
theorem FB.trans {w : Nat} {m m1 m2 : QM} (h : FB w m m1) (g : FB w m1 m2) : FB w m m2 :=
  ⟨Nat.le_trans h.1 g.1, fun b hb => ⟨(g.2 b hb).1.trans (h.2 b hb).1, fun f => ((g.2 b hb).2.1 f).trans ((h.2 b hb).2.1 f), fun f => ((g.2 b hb).2.2.1 f).trans ((h.2 b hb).2.2.1 f), fun f => ((g.2 b hb).2.2.2.1 f).trans ((h.2 b hb).2.2.2.1 f), (g.2 b hb).2.2.2.2.1.trans (h.2 b hb).2.2.2.2.1, (g.2 b hb).2.2.2.2.2.1.trans (h.2 b hb).2.2.2.2.2.1, (g.2 b hb).2.2.2.2.2.2.trans (h.2 b hb).2.2.2.2.2.2⟩⟩
theorem FB.sfi {w : Nat} {m m1 : QM} {f a : Nat} {x : Int32} (h : FB w m m1) (ha : w ≤ a) : FB w m (sfi m1 f a x) :=
  h.trans ⟨Nat.le_refl _, fun b hb => ⟨rfl, fun g => fi_a (by omega), fun _ => rfl, fun _ => rfl, rfl, rfl, rfl⟩⟩
theorem FB.sfr {w : Nat} {m m1 : QM} {f a : Nat} {x : Option Nat} (h : FB w m m1) (ha : w ≤ a) : FB w m (sfr m1 f a x) :=
  h.trans ⟨Nat.le_refl _, fun b hb => ⟨rfl, fun _ => rfl, fun _ => rfl, fun g => fr_a (by omega), rfl, rfl, rfl⟩⟩
theorem FB.sarr {w : Nat} {m m1 : QM} {a : Nat} {f : Nat → Int32} (h : FB w m m1) (ha : w ≤ a) : FB w m (sarr m1 a f) :=
  h.trans ⟨Nat.le_refl _, fun b hb => ⟨rfl, fun _ => rfl, fun _ => rfl, fun _ => rfl, va_up_diff _ _ (by omega), rfl, rfl⟩⟩
theorem FB.qnewi {w t n : Nat} {m m1 : QM} {f : Nat → Int32} (h : FB w m m1) (ha : w ≤ qtop m1) : FB w m (qnewi m1 t n f) :=
  h.trans ⟨Nat.le_succ _, fun b hb => ⟨va_up_diff _ _ (by omega), fun _ => rfl, fun _ => rfl, fun _ => rfl, va_up_diff _ _ (by omega), rfl, rfl⟩⟩
theorem FB.qnew {w c : Nat} {m m1 : QM} (h : FB w m m1) (ha : w ≤ qtop m1) : FB w m (qnew m1 c) :=
  h.trans ⟨Nat.le_succ _, fun b hb => ⟨va_up_diff _ _ (by omega), fun _ => va_up_diff _ _ (by omega), fun _ => va_up_diff _ _ (by omega), fun _ => va_up_diff _ _ (by omega), rfl, rfl, rfl⟩⟩
theorem sa_s {m : QM} {a : Nat} {f : Nat → Int32} : qai (sarr m a f) a = f := va_up_same _ _ _
theorem sa_n {m : QM} {a b : Nat} {f : Nat → Int32} (h : ¬ b = a) : qai (sarr m a f) b = qai m b := va_up_diff _ _ h
theorem sai_sarr (m : QM) (a i : Nat) (x : Int32) : sai m a i x = sarr m a (va_up (qai m a) i x) := rfl
def fb8 (x : Int32) : Prop := fits .byte (.int x) = true ∧ x.toInt8.toInt32 = x
theorem fb_dec : ∀ c, c < 128 → fits .byte (.int (I ((c : Nat) : Int))) = true ∧ (I ((c : Nat) : Int)).toInt8.toInt32 = I ((c : Nat) : Int) := by decide +kernel
theorem fb_I {c : Int} (h0 : 0 ≤ c) (h1 : c < 128) : fb8 (I c) := by
  obtain ⟨a, rfl⟩ := Int.eq_ofNat_of_zero_le h0
  exact fb_dec a (by omega)
/-- the builder q, all above w: it holds L, in the array a of n -/
def BD (w : Nat) (m : QM) (q : Nat) (L : List Int) (a n : Nat) : Prop :=
  (w ≤ q ∧ w ≤ a ∧ q ≠ a ∧ q < qtop m ∧ a < qtop m) ∧ qty m q = (1, 0, 0) ∧ qfr m 0 q = some a ∧ qfi m 1 q = 0 ∧ qfi m 3 q = I L.length ∧ qty m a = (2, 2, n) ∧ ((n = 16 ∨ n = 34) ∧ L.length ≤ n) ∧ (∀ j, j < L.length → qai m a j = I (L.getD j 0)) ∧ (∀ j, fb8 (qai m a j)) ∧ (∀ c ∈ L, 0 ≤ c ∧ c < 128)
/-- the array that takes the place of one of 16 -/
def bdg (m : QM) (q a : Nat) : QM := sfr (sarr (qnewi m 2 34 (fun _ => 0)) (qtop m) (va_cpy (qai (qnewi m 2 34 (fun _ => 0)) a) (qai (qnewi m 2 34 (fun _ => 0)) (qtop m)) 0 0 16)) 0 q (some (qtop m))
theorem BD.grow {w : Nat} {m : QM} {q : Nat} {L : List Int} {a : Nat} (h : BD w m q L a 16) : BD w (bdg m q a) q L (qtop m) 34 ∧ FB w m (bdg m q a) := by
  obtain ⟨⟨h1, h2, h3, h4, h5⟩, h6, h7, h8, h9, h10, ⟨h11, h12⟩, h13, h14, h15⟩ := h
  have ea : qai (qnewi m 2 34 (fun _ => 0)) a = qai m a := va_up_diff _ _ (by omega)
  have et : qai (qnewi m 2 34 (fun _ => 0)) (qtop m) = fun _ => 0 := va_up_same _ _ _
  have eA : qai (bdg m q a) (qtop m) = va_cpy (qai m a) (fun _ => 0) 0 0 16 := by
    have e : qai (bdg m q a) (qtop m) = va_cpy (qai (qnewi m 2 34 (fun _ => 0)) a) (qai (qnewi m 2 34 (fun _ => 0)) (qtop m)) 0 0 16 := sa_s
    rw [e, ea, et]
  refine ⟨⟨⟨h1, by omega, by omega, ?_, ?_⟩, (va_up_diff _ _ (by omega)).trans h6, fr_s, h8, h9, va_up_same _ _ _, ⟨Or.inr rfl, by omega⟩, fun j hj => ?_, fun j => ?_, h15⟩, ?_⟩
  · show q < qtop m + 1; omega
  · show qtop m < qtop m + 1; omega
  · rw [eA]
    unfold va_cpy
    rw [if_pos ⟨by omega, by omega⟩, ← h13 j hj]
    congr 1
    omega
  · rw [eA]
    unfold va_cpy
    split
    · exact h14 _
    · show fb8 0
      exact ⟨by decide, by decide⟩
  · exact (((FB.refl w m).qnewi (by omega)).sarr (by omega)).sfr h1
def RJ1 : String := "java/lang/StringLatin1"
def RJ3 : String := "jdk/internal/util/Preconditions"
def RJ8 : String := "jdk/internal/util/ArraysSupport"
abbrev cJ5_isLatin1_aae02 : ByteArray := prog_10_method_68_code
def yJ5_isLatin1_aae02 : MethodName := ⟨RJ5, "isLatin1", "()Z"⟩
theorem lk_J5_isLatin1_aae02 : LK yJ5_isLatin1_aae02 cJ5_isLatin1_aae02 1 (some .boolean) 0 := ⟨(qW_at 738 (by decide +kernel) rfl), (qW_at 47 (by decide +kernel) rfl), by decide, by decide, by decide +kernel⟩
theorem im_J5_isLatin1_aae02 : Cond.instanceMethod yJ5_isLatin1_aae02 ∈ qW := (qW_at 735 (by decide +kernel) rfl)
theorem sm_J5_isLatin1_aae02 : Cond.sameMethod yJ5_isLatin1_aae02.cls yJ5_isLatin1_aae02.cls yJ5_isLatin1_aae02.name yJ5_isLatin1_aae02.desc ∈ qW := (qW_at 736 (by decide +kernel) rfl)
theorem dJ5_isLatin1_aae02_0 : decode cJ5_isLatin1_aae02 0 = .ok (.getstatic 18, 3) := by decide +kernel
theorem dJ5_isLatin1_aae02_3 : decode cJ5_isLatin1_aae02 3 = .ok (.ifCond .eq 14, 3) := by decide +kernel
theorem dJ5_isLatin1_aae02_6 : decode cJ5_isLatin1_aae02 6 = .ok (.aload_n 0, 1) := by decide +kernel
theorem dJ5_isLatin1_aae02_7 : decode cJ5_isLatin1_aae02 7 = .ok (.getfield 22, 3) := by decide +kernel
theorem dJ5_isLatin1_aae02_10 : decode cJ5_isLatin1_aae02 10 = .ok (.ifCond .ne 7, 3) := by decide +kernel
theorem dJ5_isLatin1_aae02_13 : decode cJ5_isLatin1_aae02 13 = .ok (.iconst 1, 1) := by decide +kernel
theorem dJ5_isLatin1_aae02_14 : decode cJ5_isLatin1_aae02 14 = .ok (.goto 4, 3) := by decide +kernel
theorem dJ5_isLatin1_aae02_18 : decode cJ5_isLatin1_aae02 18 = .ok (.ireturn, 1) := by decide +kernel
set_option maxRecDepth 100000 in
set_option maxHeartbeats 400000 in
theorem E_J5_isLatin1_aae02 (q : Nat) : ME yJ5_isLatin1_aae02 cJ5_isLatin1_aae02 1 (some .boolean) 0 0 0 0 (fun DA => [.ref q]) (fun DA mm R => qty mm q = (1, 0, 0) ∧ qfi mm 1 q = 0 ∧ R (.ok (some (.int (I 1)))) mm) := by
  refine ME_of (env0 := fun DA => [(0, .ref q)]) (by decide) (fun DA => by exact Nat.le_of_ble_eq_true rfl) (fun DA => by rfl) (fun k mm R X C hR hN hr hname hP => ?_)
  have X : CX k cJ5_isLatin1_aae02 RJ5 := X
  have hT := TH_ofE C
  have htr := C.2.2.2.1
  have ho : HO k := C.2.2.2.2
  obtain ⟨h1, h2, h3⟩ := hP
  refine t_compact X ho (qW_at 663 (by decide +kernel) rfl) dJ5_isLatin1_aae02_0 ?_
  refine t_eqF 17 X dJ5_isLatin1_aae02_3 (by decide) (by decide) ?_
  refine t_al 0 X dJ5_isLatin1_aae02_6 rfl rfl ?_
  refine t_sbi (j := 1) X (by decide) (qW_at 673 (by decide +kernel) rfl) rfl dJ5_isLatin1_aae02_7 h1 h2 ?_
  refine t_neF 17 X dJ5_isLatin1_aae02_10 (by decide) (by decide) ?_
  refine g_iconst (v := I 1) X dJ5_isLatin1_aae02_13 rfl ?_
  refine g_goto (tgt := 18) X dJ5_isLatin1_aae02_14 (by decide) ?_
  exact e_iret X C hr (by decide) dJ5_isLatin1_aae02_18 (by rw [hR]; exact Nat.le_of_ble_eq_true rfl) (by rw [hR]; exact Nat.le_of_ble_eq_true rfl) (h3)
abbrev cJ8_newLength_cabcc : ByteArray := prog_28_method_27_code
def yJ8_newLength_cabcc : MethodName := ⟨RJ8, "newLength", "(III)I"⟩
theorem lk_J8_newLength_cabcc : LK yJ8_newLength_cabcc cJ8_newLength_cabcc 4 (some .int) 3 := ⟨(qW_at 711 (by decide +kernel) rfl), (qW_at 51 (by decide +kernel) rfl), by decide, by decide, by decide +kernel⟩
theorem st_J8_newLength_cabcc : Cond.static yJ8_newLength_cabcc ∈ qW := (qW_at 710 (by decide +kernel) rfl)
theorem dJ8_newLength_cabcc_0 : decode cJ8_newLength_cabcc 0 = .ok (.iload_n 0, 1) := by decide +kernel
theorem dJ8_newLength_cabcc_1 : decode cJ8_newLength_cabcc 1 = .ok (.iload_n 1, 1) := by decide +kernel
theorem dJ8_newLength_cabcc_2 : decode cJ8_newLength_cabcc 2 = .ok (.iload_n 2, 1) := by decide +kernel
theorem dJ8_newLength_cabcc_3 : decode cJ8_newLength_cabcc 3 = .ok (.invokestatic 194, 3) := by decide +kernel
theorem dJ8_newLength_cabcc_6 : decode cJ8_newLength_cabcc 6 = .ok (.iadd, 1) := by decide +kernel
theorem dJ8_newLength_cabcc_7 : decode cJ8_newLength_cabcc 7 = .ok (.istore_n 3, 1) := by decide +kernel
theorem dJ8_newLength_cabcc_8 : decode cJ8_newLength_cabcc 8 = .ok (.iconst 0, 1) := by decide +kernel
theorem dJ8_newLength_cabcc_9 : decode cJ8_newLength_cabcc 9 = .ok (.iload_n 3, 1) := by decide +kernel
theorem dJ8_newLength_cabcc_10 : decode cJ8_newLength_cabcc 10 = .ok (.if_icmp .ge 11, 3) := by decide +kernel
theorem dJ8_newLength_cabcc_13 : decode cJ8_newLength_cabcc 13 = .ok (.iload_n 3, 1) := by decide +kernel
theorem dJ8_newLength_cabcc_14 : decode cJ8_newLength_cabcc 14 = .ok (.ldc 200, 2) := by decide +kernel
theorem dJ8_newLength_cabcc_16 : decode cJ8_newLength_cabcc 16 = .ok (.if_icmp .gt 5, 3) := by decide +kernel
theorem dJ8_newLength_cabcc_19 : decode cJ8_newLength_cabcc 19 = .ok (.iload_n 3, 1) := by decide +kernel
theorem dJ8_newLength_cabcc_20 : decode cJ8_newLength_cabcc 20 = .ok (.ireturn, 1) := by decide +kernel
set_option maxRecDepth 100000 in
set_option maxHeartbeats 400000 in
theorem E_J8_newLength_cabcc (g : Int) : ME yJ8_newLength_cabcc cJ8_newLength_cabcc 4 (some .int) 1 20 0 0 (fun DA => [.int (I 16), .int (I g), .int (I 18)]) (fun DA mm R => (1 ≤ g ∧ g ≤ 18) ∧ R (.ok (some (.int (I 34)))) mm) := by
  refine ME_of (env0 := fun DA => [(0, .int (I 16)), (1, .int (I g)), (2, .int (I 18))]) (by decide) (fun DA => by exact Nat.le_of_ble_eq_true rfl) (fun DA => by rfl) (fun k mm R X C hR hN hr hname hP => ?_)
  have X : CX k cJ8_newLength_cabcc RJ8 := X
  have hT := TH_ofE C
  have htr := C.2.2.2.1
  have ho : HO k := C.2.2.2.2
  obtain ⟨h1, h2⟩ := hP
  refine g_iload_n 0 X dJ8_newLength_cabcc_0 rfl rfl ?_
  refine g_iload_n 1 X dJ8_newLength_cabcc_1 rfl rfl ?_
  refine g_iload_n 2 X dJ8_newLength_cabcc_2 rfl rfl ?_
  refine g_max X (qW_at 712 (by decide +kernel) rfl) mx_st mx_in mx_co (by rw [hR]; exact Nat.le_of_ble_eq_true rfl) (by rw [hR]; exact Nat.le_of_ble_eq_true rfl) (by rw [hR]; exact Nat.le_of_ble_eq_true rfl) (by rw [hR]; exact Nat.le_of_ble_eq_true rfl) dJ8_newLength_cabcc_3 ?_
  have e1 : (if I g < I 18 then I 18 else I g) = I 18 := by
    by_cases c : I g < I 18
    · rw [if_pos c]
    · rw [if_neg c]; rw [I_lt (by omega) (by omega) (by omega) (by omega)] at c; rw [show g = 18 from by omega]
  rw [e1]
  refine g_iadd X dJ8_newLength_cabcc_6 ?_
  rw [show I 16 + I 18 = I 34 from by decide]
  refine g_istore_n (env' := [(3, .int (I 34)), (0, .int (I 16)), (1, .int (I g)), (2, .int (I 18))]) X dJ8_newLength_cabcc_7 rfl (by rw [hN]; decide) rfl ?_
  refine g_iconst (v := I 0) X dJ8_newLength_cabcc_8 rfl ?_
  refine g_iload_n 0 X dJ8_newLength_cabcc_9 rfl rfl ?_
  refine t_cgeF 21 X dJ8_newLength_cabcc_10 (by decide) (by decide) ?_
  refine g_iload_n 0 X dJ8_newLength_cabcc_13 rfl rfl ?_
  refine g_ldc (v := (2147483639 : Int32)) X dJ8_newLength_cabcc_14 (qW_at 713 (by decide +kernel) rfl) ?_
  refine t_cgtF 21 X dJ8_newLength_cabcc_16 (by decide) (by decide) ?_
  refine g_iload_n 0 X dJ8_newLength_cabcc_19 rfl rfl ?_
  exact e_iret X C hr rfl dJ8_newLength_cabcc_20 (by rw [hR]; exact Nat.le_of_ble_eq_true rfl) (by rw [hR]; exact Nat.le_of_ble_eq_true rfl) (h2)
abbrev cJ5_newCapacity_0f7a4 : ByteArray := prog_10_method_10_code
def yJ5_newCapacity_0f7a4 : MethodName := ⟨RJ5, "newCapacity", "(I)I"⟩
theorem lk_J5_newCapacity_0f7a4 : LK yJ5_newCapacity_0f7a4 cJ5_newCapacity_0f7a4 6 (some .int) 1 := ⟨(qW_at 708 (by decide +kernel) rfl), (qW_at 47 (by decide +kernel) rfl), by decide, by decide, by decide +kernel⟩
theorem im_J5_newCapacity_0f7a4 : Cond.instanceMethod yJ5_newCapacity_0f7a4 ∈ qW := (qW_at 707 (by decide +kernel) rfl)
theorem pr_J5_newCapacity_0f7a4 : Cond.privateMethod yJ5_newCapacity_0f7a4 ∈ qN := (qN_at 706 (by decide +kernel) rfl)
theorem sm_J5_newCapacity_0f7a4 : Cond.sameMethod yJ5_newCapacity_0f7a4.cls yJ5_newCapacity_0f7a4.cls yJ5_newCapacity_0f7a4.name yJ5_newCapacity_0f7a4.desc ∈ qW := (qW_at 1293 (by decide +kernel) rfl)
theorem dJ5_newCapacity_0f7a4_0 : decode cJ5_newCapacity_0f7a4 0 = .ok (.aload_n 0, 1) := by decide +kernel
theorem dJ5_newCapacity_0f7a4_1 : decode cJ5_newCapacity_0f7a4 1 = .ok (.getfield 15, 3) := by decide +kernel
theorem dJ5_newCapacity_0f7a4_4 : decode cJ5_newCapacity_0f7a4 4 = .ok (.arraylength, 1) := by decide +kernel
theorem dJ5_newCapacity_0f7a4_5 : decode cJ5_newCapacity_0f7a4 5 = .ok (.istore_n 2, 1) := by decide +kernel
theorem dJ5_newCapacity_0f7a4_6 : decode cJ5_newCapacity_0f7a4 6 = .ok (.iload_n 1, 1) := by decide +kernel
theorem dJ5_newCapacity_0f7a4_7 : decode cJ5_newCapacity_0f7a4 7 = .ok (.aload_n 0, 1) := by decide +kernel
theorem dJ5_newCapacity_0f7a4_8 : decode cJ5_newCapacity_0f7a4 8 = .ok (.getfield 22, 3) := by decide +kernel
theorem dJ5_newCapacity_0f7a4_11 : decode cJ5_newCapacity_0f7a4 11 = .ok (.ishl, 1) := by decide +kernel
theorem dJ5_newCapacity_0f7a4_12 : decode cJ5_newCapacity_0f7a4 12 = .ok (.istore_n 3, 1) := by decide +kernel
theorem dJ5_newCapacity_0f7a4_13 : decode cJ5_newCapacity_0f7a4 13 = .ok (.iload_n 3, 1) := by decide +kernel
theorem dJ5_newCapacity_0f7a4_14 : decode cJ5_newCapacity_0f7a4 14 = .ok (.iload_n 2, 1) := by decide +kernel
theorem dJ5_newCapacity_0f7a4_15 : decode cJ5_newCapacity_0f7a4 15 = .ok (.isub, 1) := by decide +kernel
theorem dJ5_newCapacity_0f7a4_16 : decode cJ5_newCapacity_0f7a4 16 = .ok (.istore 4, 2) := by decide +kernel
theorem dJ5_newCapacity_0f7a4_18 : decode cJ5_newCapacity_0f7a4 18 = .ok (.iload_n 2, 1) := by decide +kernel
theorem dJ5_newCapacity_0f7a4_19 : decode cJ5_newCapacity_0f7a4 19 = .ok (.iload 4, 2) := by decide +kernel
theorem dJ5_newCapacity_0f7a4_21 : decode cJ5_newCapacity_0f7a4 21 = .ok (.iload_n 2, 1) := by decide +kernel
theorem dJ5_newCapacity_0f7a4_22 : decode cJ5_newCapacity_0f7a4 22 = .ok (.iconst 2, 1) := by decide +kernel
theorem dJ5_newCapacity_0f7a4_23 : decode cJ5_newCapacity_0f7a4 23 = .ok (.aload_n 0, 1) := by decide +kernel
theorem dJ5_newCapacity_0f7a4_24 : decode cJ5_newCapacity_0f7a4 24 = .ok (.getfield 22, 3) := by decide +kernel
theorem dJ5_newCapacity_0f7a4_27 : decode cJ5_newCapacity_0f7a4 27 = .ok (.ishl, 1) := by decide +kernel
theorem dJ5_newCapacity_0f7a4_28 : decode cJ5_newCapacity_0f7a4 28 = .ok (.iadd, 1) := by decide +kernel
theorem dJ5_newCapacity_0f7a4_29 : decode cJ5_newCapacity_0f7a4 29 = .ok (.invokestatic 114, 3) := by decide +kernel
theorem dJ5_newCapacity_0f7a4_32 : decode cJ5_newCapacity_0f7a4 32 = .ok (.istore 5, 2) := by decide +kernel
theorem dJ5_newCapacity_0f7a4_34 : decode cJ5_newCapacity_0f7a4 34 = .ok (.iload 5, 2) := by decide +kernel
theorem dJ5_newCapacity_0f7a4_36 : decode cJ5_newCapacity_0f7a4 36 = .ok (.ldc 39, 2) := by decide +kernel
theorem dJ5_newCapacity_0f7a4_38 : decode cJ5_newCapacity_0f7a4 38 = .ok (.if_icmp .ne 13, 3) := by decide +kernel
theorem dJ5_newCapacity_0f7a4_51 : decode cJ5_newCapacity_0f7a4 51 = .ok (.iload 5, 2) := by decide +kernel
theorem dJ5_newCapacity_0f7a4_53 : decode cJ5_newCapacity_0f7a4 53 = .ok (.aload_n 0, 1) := by decide +kernel
theorem dJ5_newCapacity_0f7a4_54 : decode cJ5_newCapacity_0f7a4 54 = .ok (.getfield 22, 3) := by decide +kernel
theorem dJ5_newCapacity_0f7a4_57 : decode cJ5_newCapacity_0f7a4 57 = .ok (.ishr, 1) := by decide +kernel
theorem dJ5_newCapacity_0f7a4_58 : decode cJ5_newCapacity_0f7a4 58 = .ok (.ireturn, 1) := by decide +kernel
set_option maxRecDepth 100000 in
set_option maxHeartbeats 400000 in
theorem E_J5_newCapacity_0f7a4 (q a : Nat) (x : Int) : ME yJ5_newCapacity_0f7a4 cJ5_newCapacity_0f7a4 6 (some .int) 2 43 0 0 (fun DA => [.ref q, .int (I x)]) (fun DA mm R => qty mm q = (1, 0, 0) ∧ qfr mm 0 q = some a ∧ qfi mm 1 q = 0 ∧ qty mm a = (2, 2, 16) ∧ (16 < x ∧ x ≤ 34) ∧ R (.ok (some (.int (I 34)))) mm) := by
  refine ME_of (env0 := fun DA => [(0, .ref q), (1, .int (I x))]) (by decide) (fun DA => by exact Nat.le_of_ble_eq_true rfl) (fun DA => by rfl) (fun k mm R X C hR hN hr hname hP => ?_)
  have X : CX k cJ5_newCapacity_0f7a4 RJ5 := X
  have hT := TH_ofE C
  have htr := C.2.2.2.1
  have ho : HO k := C.2.2.2.2
  obtain ⟨h1, h2, h3, h4, h5, h6⟩ := hP
  refine t_al 0 X dJ5_newCapacity_0f7a4_0 rfl rfl ?_
  refine t_sbr X (qW_at 672 (by decide +kernel) rfl) dJ5_newCapacity_0f7a4_1 h1 h2 ?_
  refine t_alen X dJ5_newCapacity_0f7a4_4 h4 ?_
  rw [show I ((16 : Nat) : Int) = I 16 from rfl]
  refine g_istore_n (env' := [(2, .int (I 16)), (0, .ref q), (1, .int (I x))]) X dJ5_newCapacity_0f7a4_5 rfl (by rw [hN]; decide) rfl ?_
  refine g_iload_n 2 X dJ5_newCapacity_0f7a4_6 rfl rfl ?_
  refine t_al 1 X dJ5_newCapacity_0f7a4_7 rfl rfl ?_
  refine t_sbi (j := 1) X (by decide) (qW_at 673 (by decide +kernel) rfl) rfl dJ5_newCapacity_0f7a4_8 h1 h3 ?_
  refine g_ishl X dJ5_newCapacity_0f7a4_11 ?_
  rw [shl0]
  refine g_istore_n (env' := [(3, .int (I x)), (2, .int (I 16)), (0, .ref q), (1, .int (I x))]) X dJ5_newCapacity_0f7a4_12 rfl (by rw [hN]; decide) rfl ?_
  refine g_iload_n 0 X dJ5_newCapacity_0f7a4_13 rfl rfl ?_
  refine g_iload_n 1 X dJ5_newCapacity_0f7a4_14 rfl rfl ?_
  refine g_isub X dJ5_newCapacity_0f7a4_15 ?_
  rw [I_sub]
  refine g_istore (env' := [(4, .int (I (x - 16))), (3, .int (I x)), (2, .int (I 16)), (0, .ref q), (1, .int (I x))]) X dJ5_newCapacity_0f7a4_16 (by rw [hN]; decide) rfl ?_
  refine g_iload_n 2 X dJ5_newCapacity_0f7a4_18 rfl rfl ?_
  refine g_iload 0 X dJ5_newCapacity_0f7a4_19 rfl ?_
  refine g_iload_n 2 X dJ5_newCapacity_0f7a4_21 rfl rfl ?_
  refine g_iconst (v := I 2) X dJ5_newCapacity_0f7a4_22 rfl ?_
  refine t_al 3 X dJ5_newCapacity_0f7a4_23 rfl rfl ?_
  refine t_sbi (j := 1) X (by decide) (qW_at 673 (by decide +kernel) rfl) rfl dJ5_newCapacity_0f7a4_24 h1 h3 ?_
  refine g_ishl X dJ5_newCapacity_0f7a4_27 ?_
  rw [shl0]
  refine g_iadd X dJ5_newCapacity_0f7a4_28 ?_
  rw [show I 16 + I 2 = I 18 from by decide]
  refine e_callS (st := []) (rok fun v m1 => v = some (.int (I 34)) ∧ mm = m1) X hT htr (E_J8_newLength_cabcc (x - 16)) lk_J8_newLength_cabcc st_J8_newLength_cabcc (qW_at 709 (by decide +kernel) rfl) rfl (by rw [hR]; exact ⟨Nat.le_of_ble_eq_true rfl, Nat.le_of_ble_eq_true rfl⟩) (by exact Nat.le_of_ble_eq_true rfl) (by rw [hR]; exact ⟨Nat.le_of_ble_eq_true rfl, Nat.le_of_ble_eq_true rfl⟩) dJ5_newCapacity_0f7a4_29 (by rfl) (⟨⟨by omega, by omega⟩, _, rfl, rfl, rfl⟩) (fun _ _ h => rok_x h) (fun v m1 h => ?_)
  obtain ⟨_, hv0, rfl, rfl⟩ := h
  cases hv0
  refine g_istore (env' := [(5, .int (I 34)), (4, .int (I (x - 16))), (3, .int (I x)), (2, .int (I 16)), (0, .ref q), (1, .int (I x))]) X dJ5_newCapacity_0f7a4_32 (by rw [hN]; decide) rfl ?_
  refine g_iload 0 X dJ5_newCapacity_0f7a4_34 rfl ?_
  refine g_ldc (v := (2147483647 : Int32)) X dJ5_newCapacity_0f7a4_36 (qW_at 717 (by decide +kernel) rfl) ?_
  refine t_cneT (tgt := 51) X dJ5_newCapacity_0f7a4_38 (by decide) (by decide) ?_
  refine g_iload 0 X dJ5_newCapacity_0f7a4_51 rfl ?_
  refine t_al 4 X dJ5_newCapacity_0f7a4_53 rfl rfl ?_
  refine t_sbi (j := 1) X (by decide) (qW_at 673 (by decide +kernel) rfl) rfl dJ5_newCapacity_0f7a4_54 h1 h3 ?_
  refine g_ishr X dJ5_newCapacity_0f7a4_57 ?_
  rw [shr0]
  exact e_iret X C hr rfl dJ5_newCapacity_0f7a4_58 (by rw [hR]; exact Nat.le_of_ble_eq_true rfl) (by rw [hR]; exact Nat.le_of_ble_eq_true rfl) (h6)
abbrev cJ7_copyOf_9075b : ByteArray := prog_27_method_121_code
def yJ7_copyOf_9075b : MethodName := ⟨RJ7, "copyOf", "([BI)[B"⟩
theorem lk_J7_copyOf_9075b : LK yJ7_copyOf_9075b cJ7_copyOf_9075b 3 (some (.array .byte)) 2 := ⟨(qW_at 720 (by decide +kernel) rfl), (qW_at 43 (by decide +kernel) rfl), by decide, by decide, by decide +kernel⟩
theorem st_J7_copyOf_9075b : Cond.static yJ7_copyOf_9075b ∈ qW := (qW_at 719 (by decide +kernel) rfl)
theorem dJ7_copyOf_9075b_0 : decode cJ7_copyOf_9075b 0 = .ok (.iload_n 1, 1) := by decide +kernel
theorem dJ7_copyOf_9075b_1 : decode cJ7_copyOf_9075b 1 = .ok (.aload_n 0, 1) := by decide +kernel
theorem dJ7_copyOf_9075b_2 : decode cJ7_copyOf_9075b 2 = .ok (.arraylength, 1) := by decide +kernel
theorem dJ7_copyOf_9075b_3 : decode cJ7_copyOf_9075b 3 = .ok (.if_icmp .ne 11, 3) := by decide +kernel
theorem dJ7_copyOf_9075b_14 : decode cJ7_copyOf_9075b 14 = .ok (.iload_n 1, 1) := by decide +kernel
theorem dJ7_copyOf_9075b_15 : decode cJ7_copyOf_9075b 15 = .ok (.newarray .byte, 2) := by decide +kernel
theorem dJ7_copyOf_9075b_17 : decode cJ7_copyOf_9075b 17 = .ok (.astore_n 2, 1) := by decide +kernel
theorem dJ7_copyOf_9075b_18 : decode cJ7_copyOf_9075b 18 = .ok (.aload_n 0, 1) := by decide +kernel
theorem dJ7_copyOf_9075b_19 : decode cJ7_copyOf_9075b 19 = .ok (.iconst 0, 1) := by decide +kernel
theorem dJ7_copyOf_9075b_20 : decode cJ7_copyOf_9075b 20 = .ok (.aload_n 2, 1) := by decide +kernel
theorem dJ7_copyOf_9075b_21 : decode cJ7_copyOf_9075b 21 = .ok (.iconst 0, 1) := by decide +kernel
theorem dJ7_copyOf_9075b_22 : decode cJ7_copyOf_9075b 22 = .ok (.aload_n 0, 1) := by decide +kernel
theorem dJ7_copyOf_9075b_23 : decode cJ7_copyOf_9075b 23 = .ok (.arraylength, 1) := by decide +kernel
theorem dJ7_copyOf_9075b_24 : decode cJ7_copyOf_9075b 24 = .ok (.iload_n 1, 1) := by decide +kernel
theorem dJ7_copyOf_9075b_25 : decode cJ7_copyOf_9075b 25 = .ok (.invokestatic 304, 3) := by decide +kernel
theorem dJ7_copyOf_9075b_28 : decode cJ7_copyOf_9075b 28 = .ok (.invokestatic 150, 3) := by decide +kernel
theorem dJ7_copyOf_9075b_31 : decode cJ7_copyOf_9075b 31 = .ok (.aload_n 2, 1) := by decide +kernel
theorem dJ7_copyOf_9075b_32 : decode cJ7_copyOf_9075b 32 = .ok (.areturn, 1) := by decide +kernel
set_option maxRecDepth 100000 in
set_option maxHeartbeats 400000 in
theorem E_J7_copyOf_9075b (a : Nat) : ME yJ7_copyOf_9075b cJ7_copyOf_9075b 3 (some (.array .byte)) 1 40 1 34 (fun DA => [.ref a, .int (I 34)]) (fun DA mm R => qty mm a = (2, 2, 16) ∧ a < qtop mm ∧ (∀ j, fb8 (qai mm a j)) ∧ R (.ok (some (.ref (qtop mm)))) (sarr (qnewi mm 2 34 (fun _ => 0)) (qtop mm) (va_cpy (qai (qnewi mm 2 34 (fun _ => 0)) a) (qai (qnewi mm 2 34 (fun _ => 0)) (qtop mm)) 0 0 16))) := by
  refine ME_of (env0 := fun DA => [(0, .ref a), (1, .int (I 34))]) (by decide) (fun DA => by exact Nat.le_of_ble_eq_true rfl) (fun DA => by rfl) (fun k mm R X C hR hN hr hname hP => ?_)
  have X : CX k cJ7_copyOf_9075b RJ7 := X
  have hT := TH_ofE C
  have htr := C.2.2.2.1
  have ho : HO k := C.2.2.2.2
  obtain ⟨h1, h2, h3, h4⟩ := hP
  refine g_iload_n 1 X dJ7_copyOf_9075b_0 rfl rfl ?_
  refine t_al 0 X dJ7_copyOf_9075b_1 rfl rfl ?_
  refine t_alen X dJ7_copyOf_9075b_2 h1 ?_
  rw [show I ((16 : Nat) : Int) = I 16 from rfl]
  refine t_cneT (tgt := 14) X dJ7_copyOf_9075b_3 (by decide) (by decide) ?_
  refine g_iload_n 1 X dJ7_copyOf_9075b_14 rfl rfl ?_
  refine g_newi2 34 X ac_byte (by decide) (by decide) (by rw [hR]; exact Nat.le_of_ble_eq_true rfl) (by rw [hR]; exact Nat.le_of_ble_eq_true rfl) dJ7_copyOf_9075b_15 ?_
  rw [show (I 34).toNatClampNeg = 34 from by decide]
  have e1 : qty (qnewi mm 2 34 (fun _ => 0)) a = (2, 2, 16) := (va_up_diff _ _ (by omega)).trans h1
  have e2 : qty (qnewi mm 2 34 (fun _ => 0)) (qtop mm) = (2, 2, 34) := va_up_same _ _ _
  have e3 : ∀ j, fb8 (qai (qnewi mm 2 34 (fun _ => 0)) a j) := fun j => by rw [show qai (qnewi mm 2 34 (fun _ => 0)) a = qai mm a from va_up_diff _ _ (by omega)]; exact h3 j
  generalize qtop mm = t at h4 e2 ⊢
  generalize qnewi mm 2 34 (fun _ => 0) = m9 at h4 e1 e2 e3 ⊢
  refine t_as (env' := [(2, .ref t), (0, .ref a), (1, .int (I 34))]) X dJ7_copyOf_9075b_17 rfl (by rw [hN]; decide) rfl ?_
  refine t_al 1 X dJ7_copyOf_9075b_18 rfl rfl ?_
  refine g_iconst (v := I 0) X dJ7_copyOf_9075b_19 rfl ?_
  refine t_al 0 X dJ7_copyOf_9075b_20 rfl rfl ?_
  refine g_iconst (v := I 0) X dJ7_copyOf_9075b_21 rfl ?_
  refine t_al 1 X dJ7_copyOf_9075b_22 rfl rfl ?_
  refine t_alen X dJ7_copyOf_9075b_23 e1 ?_
  rw [show I ((16 : Nat) : Int) = I 16 from rfl]
  refine g_iload_n 2 X dJ7_copyOf_9075b_24 rfl rfl ?_
  refine g_min X (qW_at 728 (by decide +kernel) rfl) (by rw [hR]; exact Nat.le_of_ble_eq_true rfl) (by rw [hR]; exact Nat.le_of_ble_eq_true rfl) (by rw [hR]; exact Nat.le_of_ble_eq_true rfl) (by rw [hR]; exact Nat.le_of_ble_eq_true rfl) dJ7_copyOf_9075b_25 ?_
  rw [show (if I 34 < I 16 then I 34 else I 16) = I 16 from by decide]
  refine t_copy (f := qai m9 a) (n0 := 16) (n1 := 34) X (qW_at 731 (by decide +kernel) rfl) (t_src X e1) e2 (by decide) (by decide) (by decide) (by decide) (by decide) (fun j _ => (e3 _).1) (by rw [hR]; exact Nat.le_of_ble_eq_true rfl) (by rw [hR]; exact Nat.le_of_ble_eq_true rfl) dJ7_copyOf_9075b_28 ?_
  rw [show (I 0).toNatClampNeg = 0 from by decide, show (I 16).toNatClampNeg = 16 from by decide]
  refine t_al 0 X dJ7_copyOf_9075b_31 rfl rfl ?_
  exact e_aret X C hr (Or.inr ⟨_, rfl⟩) dJ7_copyOf_9075b_32 (by rw [hR]; exact Nat.le_of_ble_eq_true rfl) (by rw [hR]; exact Nat.le_of_ble_eq_true rfl) (h4)
abbrev cJ5_ensureCapacityInternal_d00df : ByteArray := prog_10_method_9_code
def yJ5_ensureCapacityInternal_d00df : MethodName := ⟨RJ5, "ensureCapacityInternal", "(I)V"⟩
theorem lk_J5_ensureCapacityInternal_d00df : LK yJ5_ensureCapacityInternal_d00df cJ5_ensureCapacityInternal_d00df 3 none 1 := ⟨(qW_at 704 (by decide +kernel) rfl), (qW_at 47 (by decide +kernel) rfl), by decide, by decide, by decide +kernel⟩
theorem im_J5_ensureCapacityInternal_d00df : Cond.instanceMethod yJ5_ensureCapacityInternal_d00df ∈ qW := (qW_at 703 (by decide +kernel) rfl)
theorem pr_J5_ensureCapacityInternal_d00df : Cond.privateMethod yJ5_ensureCapacityInternal_d00df ∈ qN := (qN_at 702 (by decide +kernel) rfl)
theorem sm_J5_ensureCapacityInternal_d00df : Cond.sameMethod yJ5_ensureCapacityInternal_d00df.cls yJ5_ensureCapacityInternal_d00df.cls yJ5_ensureCapacityInternal_d00df.name yJ5_ensureCapacityInternal_d00df.desc ∈ qW := (qW_at 1292 (by decide +kernel) rfl)
theorem dJ5_ensureCapacityInternal_d00df_0 : decode cJ5_ensureCapacityInternal_d00df 0 = .ok (.aload_n 0, 1) := by decide +kernel
theorem dJ5_ensureCapacityInternal_d00df_1 : decode cJ5_ensureCapacityInternal_d00df 1 = .ok (.getfield 15, 3) := by decide +kernel
theorem dJ5_ensureCapacityInternal_d00df_4 : decode cJ5_ensureCapacityInternal_d00df 4 = .ok (.arraylength, 1) := by decide +kernel
theorem dJ5_ensureCapacityInternal_d00df_5 : decode cJ5_ensureCapacityInternal_d00df 5 = .ok (.aload_n 0, 1) := by decide +kernel
theorem dJ5_ensureCapacityInternal_d00df_6 : decode cJ5_ensureCapacityInternal_d00df 6 = .ok (.getfield 22, 3) := by decide +kernel
theorem dJ5_ensureCapacityInternal_d00df_9 : decode cJ5_ensureCapacityInternal_d00df 9 = .ok (.ishr, 1) := by decide +kernel
theorem dJ5_ensureCapacityInternal_d00df_10 : decode cJ5_ensureCapacityInternal_d00df 10 = .ok (.istore_n 2, 1) := by decide +kernel
theorem dJ5_ensureCapacityInternal_d00df_11 : decode cJ5_ensureCapacityInternal_d00df 11 = .ok (.iload_n 1, 1) := by decide +kernel
theorem dJ5_ensureCapacityInternal_d00df_12 : decode cJ5_ensureCapacityInternal_d00df 12 = .ok (.iload_n 2, 1) := by decide +kernel
theorem dJ5_ensureCapacityInternal_d00df_13 : decode cJ5_ensureCapacityInternal_d00df 13 = .ok (.isub, 1) := by decide +kernel
theorem dJ5_ensureCapacityInternal_d00df_14 : decode cJ5_ensureCapacityInternal_d00df 14 = .ok (.ifCond .le 24, 3) := by decide +kernel
theorem dJ5_ensureCapacityInternal_d00df_17 : decode cJ5_ensureCapacityInternal_d00df 17 = .ok (.aload_n 0, 1) := by decide +kernel
theorem dJ5_ensureCapacityInternal_d00df_18 : decode cJ5_ensureCapacityInternal_d00df 18 = .ok (.aload_n 0, 1) := by decide +kernel
theorem dJ5_ensureCapacityInternal_d00df_19 : decode cJ5_ensureCapacityInternal_d00df 19 = .ok (.getfield 15, 3) := by decide +kernel
theorem dJ5_ensureCapacityInternal_d00df_22 : decode cJ5_ensureCapacityInternal_d00df 22 = .ok (.aload_n 0, 1) := by decide +kernel
theorem dJ5_ensureCapacityInternal_d00df_23 : decode cJ5_ensureCapacityInternal_d00df 23 = .ok (.iload_n 1, 1) := by decide +kernel
theorem dJ5_ensureCapacityInternal_d00df_24 : decode cJ5_ensureCapacityInternal_d00df 24 = .ok (.invokevirtual 104, 3) := by decide +kernel
theorem dJ5_ensureCapacityInternal_d00df_27 : decode cJ5_ensureCapacityInternal_d00df 27 = .ok (.aload_n 0, 1) := by decide +kernel
theorem dJ5_ensureCapacityInternal_d00df_28 : decode cJ5_ensureCapacityInternal_d00df 28 = .ok (.getfield 22, 3) := by decide +kernel
theorem dJ5_ensureCapacityInternal_d00df_31 : decode cJ5_ensureCapacityInternal_d00df 31 = .ok (.ishl, 1) := by decide +kernel
theorem dJ5_ensureCapacityInternal_d00df_32 : decode cJ5_ensureCapacityInternal_d00df 32 = .ok (.invokestatic 108, 3) := by decide +kernel
theorem dJ5_ensureCapacityInternal_d00df_35 : decode cJ5_ensureCapacityInternal_d00df 35 = .ok (.putfield 15, 3) := by decide +kernel
theorem dJ5_ensureCapacityInternal_d00df_38 : decode cJ5_ensureCapacityInternal_d00df 38 = .ok (.return_, 1) := by decide +kernel
set_option maxRecDepth 100000 in
set_option maxHeartbeats 400000 in
theorem E_J5_ensureCapacityInternal_d00df (w q : Nat) (L : List Int) (a n : Nat) (x : Int) : ME yJ5_ensureCapacityInternal_d00df cJ5_ensureCapacityInternal_d00df 3 none 3 68 1 34 (fun DA => [.ref q, .int (I x)]) (fun DA mm R => BD w mm q L a n ∧ ((L.length : Int) ≤ x ∧ x ≤ 34) ∧ ∀ m' a' n', BD w m' q L a' n' → x ≤ n' → FB w mm m' → R (.ok none) m') := by
  refine ME_of (env0 := fun DA => [(0, .ref q), (1, .int (I x))]) (by decide) (fun DA => by exact Nat.le_of_ble_eq_true rfl) (fun DA => by rfl) (fun k mm R X C hR hN hr hname hP => ?_)
  have X : CX k cJ5_ensureCapacityInternal_d00df RJ5 := X
  have hT := TH_ofE C
  have htr := C.2.2.2.1
  have ho : HO k := C.2.2.2.2
  obtain ⟨hB, ⟨hx1, hx2⟩, h⟩ := hP
  obtain ⟨⟨h1, h2, h3, h4, h5⟩, h6, h7, h8, h9, h10, ⟨h11, h12⟩, h13, h14, h15⟩ := id hB
  refine t_al 0 X dJ5_ensureCapacityInternal_d00df_0 rfl rfl ?_
  refine t_sbr X (qW_at 672 (by decide +kernel) rfl) dJ5_ensureCapacityInternal_d00df_1 h6 h7 ?_
  refine t_alen X dJ5_ensureCapacityInternal_d00df_4 h10 ?_
  refine t_al 0 X dJ5_ensureCapacityInternal_d00df_5 rfl rfl ?_
  refine t_sbi (j := 1) X (by decide) (qW_at 673 (by decide +kernel) rfl) rfl dJ5_ensureCapacityInternal_d00df_6 h6 h8 ?_
  refine g_ishr X dJ5_ensureCapacityInternal_d00df_9 ?_
  rw [shr0]
  refine g_istore_n (env' := [(2, .int (I n)), (0, .ref q), (1, .int (I x))]) X dJ5_ensureCapacityInternal_d00df_10 rfl (by rw [hN]; decide) rfl ?_
  refine g_iload_n 2 X dJ5_ensureCapacityInternal_d00df_11 rfl rfl ?_
  refine g_iload_n 0 X dJ5_ensureCapacityInternal_d00df_12 rfl rfl ?_
  refine g_isub X dJ5_ensureCapacityInternal_d00df_13 ?_
  rw [I_sub]
  by_cases c : x ≤ n
  · skip
    refine t_leT (tgt := 38) X dJ5_ensureCapacityInternal_d00df_14 (by decide) (by rw [show (0 : Int32) = I 0 from rfl, I_le (by omega) (by omega) (by omega) (by omega)]; omega) ?_
    exact e_vret X C hr dJ5_ensureCapacityInternal_d00df_38 (by rw [hR]; exact Nat.le_of_ble_eq_true rfl) (by rw [hR]; exact Nat.le_of_ble_eq_true rfl) (h _ a n hB (by omega) (FB.refl w mm))
  · have en : n = 16 := by omega
    subst en
    have hg := hB.grow
    refine t_leF 38 X dJ5_ensureCapacityInternal_d00df_14 (by decide) (by rw [show (0 : Int32) = I 0 from rfl, I_le (by omega) (by omega) (by omega) (by omega)]; omega) ?_
    refine t_al 1 X dJ5_ensureCapacityInternal_d00df_17 rfl rfl ?_
    refine t_al 1 X dJ5_ensureCapacityInternal_d00df_18 rfl rfl ?_
    refine t_sbr X (qW_at 672 (by decide +kernel) rfl) dJ5_ensureCapacityInternal_d00df_19 h6 h7 ?_
    refine t_al 1 X dJ5_ensureCapacityInternal_d00df_22 rfl rfl ?_
    refine g_iload_n 2 X dJ5_ensureCapacityInternal_d00df_23 rfl rfl ?_
    refine e_callP (st := [.ref a, .ref q]) (rok fun v m1 => v = some (.int (I 34)) ∧ mm = m1) X hT htr (E_J5_newCapacity_0f7a4 q a x) lk_J5_newCapacity_0f7a4 im_J5_newCapacity_0f7a4 pr_J5_newCapacity_0f7a4 sm_J5_newCapacity_0f7a4 (qW_at 705 (by decide +kernel) rfl) h6 rfl rfl (by rw [hR]; exact ⟨Nat.le_of_ble_eq_true rfl, Nat.le_of_ble_eq_true rfl⟩) (by exact Nat.le_of_ble_eq_true rfl) (by rw [hR]; exact ⟨Nat.le_of_ble_eq_true rfl, Nat.le_of_ble_eq_true rfl⟩) dJ5_ensureCapacityInternal_d00df_24 (by rfl) (⟨h6, h7, h8, h10, ⟨by omega, hx2⟩, _, rfl, rfl, rfl⟩) (fun _ _ h => rok_x h) (fun v m1 h => ?_)
    obtain ⟨_, hv0, rfl, rfl⟩ := h
    cases hv0
    refine t_al 1 X dJ5_ensureCapacityInternal_d00df_27 rfl rfl ?_
    refine t_sbi (j := 1) X (by decide) (qW_at 673 (by decide +kernel) rfl) rfl dJ5_ensureCapacityInternal_d00df_28 h6 h8 ?_
    refine g_ishl X dJ5_ensureCapacityInternal_d00df_31 ?_
    rw [shl0]
    refine e_callS (st := [.ref q]) (rok fun v m1 => v = some (.ref (qtop mm)) ∧ m1 = sarr (qnewi mm 2 34 (fun _ => 0)) (qtop mm) (va_cpy (qai (qnewi mm 2 34 (fun _ => 0)) a) (qai (qnewi mm 2 34 (fun _ => 0)) (qtop mm)) 0 0 16)) X hT htr (E_J7_copyOf_9075b a) lk_J7_copyOf_9075b st_J7_copyOf_9075b (qW_at 718 (by decide +kernel) rfl) rfl (by rw [hR]; exact ⟨Nat.le_of_ble_eq_true rfl, Nat.le_of_ble_eq_true rfl⟩) (by exact Nat.le_of_ble_eq_true rfl) (by rw [hR]; exact ⟨Nat.le_of_ble_eq_true rfl, Nat.le_of_ble_eq_true rfl⟩) dJ5_ensureCapacityInternal_d00df_32 (by rfl) (⟨h10, h5, h14, _, rfl, rfl, rfl⟩) (fun _ _ h => rok_x h) (fun v m1 h => ?_)
    obtain ⟨_, hv0, rfl, rfl⟩ := h
    cases hv0
    refine t_sbpv X (qW_at 672 (by decide +kernel) rfl) dJ5_ensureCapacityInternal_d00df_35 ((va_up_diff _ _ (by omega)).trans h6) ?_
    exact e_vret X C hr dJ5_ensureCapacityInternal_d00df_38 (by rw [hR]; exact Nat.le_of_ble_eq_true rfl) (by rw [hR]; exact Nat.le_of_ble_eq_true rfl) (h _ _ _ hg.1 (by omega) hg.2)
