/-! a number behind what the builder holds -/
theorem dO_I {u : Int} (h0 : 0 ≤ u) (h1 : u < 100) : qdO (I u).toNatClampNeg = I (48 + u % 10) := by
  rw [clamp_I h0 (by omega)]
  unfold qdO
  rw [I_nat]
  congr 1
  omega
theorem dT_I {u : Int} (h0 : 0 ≤ u) (h1 : u < 100) : qdT (I u).toNatClampNeg = I (48 + u / 10) := by
  rw [clamp_I h0 (by omega)]
  unfold qdT
  rw [I_nat]
  congr 1
  omega
theorem dv_dec : ∀ v, v < 1000 → I (-((v : Nat) : Int)) / I 100 = I (-((v / 100 : Nat) : Int)) := by decide +kernel
theorem dv_I {v : Int} (h0 : 0 ≤ v) (h1 : v < 1000) : I (-v) / I 100 = I (-(v / 100)) := by
  obtain ⟨a, rfl⟩ := Int.eq_ofNat_of_zero_le h0
  exact dv_dec a (by omega)
/-- the digits, from the place i backwards -/
def dgm (m : QM) (a i : Nat) (v : Int) : QM := if v < 10 then sai m a (i - 1) (I (48 + v)) else if v < 100 then sai (sai m a (i - 1) (I (48 + v % 10))) a (i - 2) (I (48 + v / 10)) else sai (sai (sai m a (i - 1) (I (48 + v % 10))) a (i - 2) (I (48 + v / 10 % 10))) a (i - 3) (I (48 + v / 100))
def bdi (m : QM) (q a : Nat) (v : Int) (L : List Int) : QM := sfi (dgm m a (L.length + (dg v).length) v) 3 q (I ((L ++ dg v).length : Nat))
theorem sai_fb {w : Nat} {m m1 : QM} {a i : Nat} {x : Int32} (h : FB w m m1) (ha : w ≤ a) : FB w m (sai m1 a i x) := h.sarr ha
theorem dgm_k {m : QM} {a i : Nat} {v : Int} : (qtop (dgm m a i v) = qtop m) ∧ (∀ b, qty (dgm m a i v) b = qty m b) ∧ (∀ f b, qfi (dgm m a i v) f b = qfi m f b) ∧ (∀ f b, qfr (dgm m a i v) f b = qfr m f b) := by
  unfold dgm
  split
  · exact ⟨rfl, fun _ => rfl, fun _ _ => rfl, fun _ _ => rfl⟩
  · split
    · exact ⟨rfl, fun _ => rfl, fun _ _ => rfl, fun _ _ => rfl⟩
    · exact ⟨rfl, fun _ => rfl, fun _ _ => rfl, fun _ _ => rfl⟩
theorem dgm_fb {w : Nat} {m : QM} {a i : Nat} {v : Int} (ha : w ≤ a) : FB w m (dgm m a i v) := by
  unfold dgm
  split
  · exact sai_fb (FB.refl w m) ha
  · split
    · exact sai_fb (sai_fb (FB.refl w m) ha) ha
    · exact sai_fb (sai_fb (sai_fb (FB.refl w m) ha) ha) ha
theorem si_s {m : QM} {a i j : Nat} {x : Int32} (h : j = i) : qai (sai m a i x) a j = x := by
  subst h
  show va_up (qai m) a (va_up (qai m a) j x) a j = x
  rw [va_up_same, va_up_same]
theorem si_n {m : QM} {a i j : Nat} {x : Int32} (h : ¬ j = i) : qai (sai m a i x) a j = qai m a j := by
  show va_up (qai m) a (va_up (qai m a) i x) a j = _
  rw [va_up_same, va_up_diff _ _ h]
theorem dg_ok {v : Int} (h0 : 0 ≤ v) (h1 : v < 1000) : ∀ c ∈ dg v, 0 ≤ c ∧ c < 128 := by
  unfold dg
  split
  · intro c hc; rw [List.mem_singleton.mp hc]; omega
  · split
    · intro c hc
      simp only [List.mem_cons, List.mem_nil_iff, or_false] at hc
      rcases hc with rfl | rfl <;> omega
    · intro c hc
      simp only [List.mem_cons, List.mem_nil_iff, or_false] at hc
      rcases hc with rfl | rfl | rfl <;> omega
theorem dgm_at {m : QM} {a l : Nat} {v : Int} : (∀ j, j < l → qai (dgm m a (l + (dg v).length) v) a j = qai m a j) ∧ (∀ j, j < (dg v).length → qai (dgm m a (l + (dg v).length) v) a (l + j) = I ((dg v).getD j 0)) ∧ ∀ j, l + (dg v).length ≤ j → qai (dgm m a (l + (dg v).length) v) a j = qai m a j := by
  unfold dgm dg
  split
  · refine ⟨fun j hj => si_n (by simp only [List.length_cons, List.length_nil]; omega), fun j hj => ?_, fun j hj => si_n (by simp only [List.length_cons, List.length_nil] at hj ⊢; omega)⟩
    have hj : j < 1 := hj
    have : j = 0 := by omega
    subst this
    exact si_s (by simp only [List.length_cons, List.length_nil]; omega)
  · split
    · refine ⟨fun j hj => ?_, fun j hj => ?_, fun j hj => ?_⟩
      · rw [si_n (by simp only [List.length_cons, List.length_nil]; omega), si_n (by simp only [List.length_cons, List.length_nil]; omega)]
      · have hj : j < 2 := hj
        match j, hj with
        | 0, _ => exact si_s (by simp only [List.length_cons, List.length_nil]; omega)
        | 1, _ => rw [si_n (by simp only [List.length_cons, List.length_nil]; omega)]; exact si_s (by simp only [List.length_cons, List.length_nil]; omega)
      · simp only [List.length_cons, List.length_nil] at hj
        rw [si_n (by simp only [List.length_cons, List.length_nil]; omega), si_n (by simp only [List.length_cons, List.length_nil]; omega)]
    · refine ⟨fun j hj => ?_, fun j hj => ?_, fun j hj => ?_⟩
      · rw [si_n (by simp only [List.length_cons, List.length_nil]; omega), si_n (by simp only [List.length_cons, List.length_nil]; omega), si_n (by simp only [List.length_cons, List.length_nil]; omega)]
      · have hj : j < 3 := hj
        match j, hj with
        | 0, _ => exact si_s (by simp only [List.length_cons, List.length_nil]; omega)
        | 1, _ => rw [si_n (by simp only [List.length_cons, List.length_nil]; omega)]; exact si_s (by simp only [List.length_cons, List.length_nil]; omega)
        | 2, _ => rw [si_n (by simp only [List.length_cons, List.length_nil]; omega), si_n (by simp only [List.length_cons, List.length_nil]; omega)]; exact si_s (by simp only [List.length_cons, List.length_nil]; omega)
      · simp only [List.length_cons, List.length_nil] at hj
        rw [si_n (by simp only [List.length_cons, List.length_nil]; omega), si_n (by simp only [List.length_cons, List.length_nil]; omega), si_n (by simp only [List.length_cons, List.length_nil]; omega)]
theorem BD.int {w : Nat} {m : QM} {q : Nat} {L : List Int} {a n : Nat} {v : Int} (h : BD w m q L a n) (hv : 0 ≤ v ∧ v < 1000) (hl : L.length + (dg v).length ≤ n) : BD w (bdi m q a v L) q (L ++ dg v) a n ∧ FB w m (bdi m q a v L) := by
  obtain ⟨⟨h1, h2, h3, h4, h5⟩, h6, h7, h8, h9, h10, ⟨h11, h12⟩, h13, h14, h15⟩ := h
  have ek := dgm_k (m := m) (a := a) (i := L.length + (dg v).length) (v := v)
  have ea := dgm_at (m := m) (a := a) (l := L.length) (v := v)
  have hok := dg_ok hv.1 hv.2
  have hF : FB w m (bdi m q a v L) := (dgm_fb h2).sfi h1
  unfold bdi at hF ⊢
  generalize dgm m a (L.length + (dg v).length) v = M at ek ea hF ⊢
  refine ⟨⟨⟨h1, h2, h3, by show q < qtop M; rw [ek.1]; exact h4, by show a < qtop M; rw [ek.1]; exact h5⟩, (ek.2.1 q).trans h6, (ek.2.2.2 0 q).trans h7, (fi_n (by decide)).trans ((ek.2.2.1 1 q).trans h8), fi_s, (ek.2.1 a).trans h10, ⟨h11, by rw [List.length_append]; exact hl⟩, fun y hy => ?_, fun y => ?_, fun c hc => ?_⟩, hF⟩
  · rw [List.length_append] at hy
    show qai M a y = _
    by_cases c : y < L.length
    · rw [ea.1 y c, h13 y c, gd_l c]
    · have e := ea.2.1 (y - L.length) (by omega)
      rw [show L.length + (y - L.length) = y from by omega] at e
      rw [e, gd_r (by omega)]
  · show fb8 (qai M a y)
    by_cases c : y < L.length
    · rw [ea.1 y c]; exact h14 y
    · by_cases d : y < L.length + (dg v).length
      · have e := ea.2.1 (y - L.length) (by omega)
        rw [show L.length + (y - L.length) = y from by omega] at e
        rw [e]
        have hm : (dg v).getD (y - L.length) 0 ∈ dg v := by
          rw [List.getD_eq_getElem?_getD, List.getElem?_eq_getElem (show y - L.length < (dg v).length from by omega)]
          exact List.getElem_mem _
        exact fb_I (hok _ hm).1 (hok _ hm).2
      · rw [ea.2.2 y (by omega)]; exact h14 y
  · rcases List.mem_append.mp hc with g | g
    · exact h15 c g
    · exact hok c g
abbrev cJ6_stringSize_0f7a4 : ByteArray := prog_16_method_13_code
def yJ6_stringSize_0f7a4 : MethodName := ⟨RJ6, "stringSize", "(I)I"⟩
theorem lk_J6_stringSize_0f7a4 : LK yJ6_stringSize_0f7a4 cJ6_stringSize_0f7a4 4 (some .int) 1 := ⟨(qW_at 839 (by decide +kernel) rfl), (qW_at 46 (by decide +kernel) rfl), by decide, by decide, by decide +kernel⟩
theorem st_J6_stringSize_0f7a4 : Cond.static yJ6_stringSize_0f7a4 ∈ qW := (qW_at 838 (by decide +kernel) rfl)
theorem dJ6_stringSize_0f7a4_0 : decode cJ6_stringSize_0f7a4 0 = .ok (.iconst 1, 1) := by decide +kernel
theorem dJ6_stringSize_0f7a4_1 : decode cJ6_stringSize_0f7a4 1 = .ok (.istore_n 1, 1) := by decide +kernel
theorem dJ6_stringSize_0f7a4_2 : decode cJ6_stringSize_0f7a4 2 = .ok (.iload_n 0, 1) := by decide +kernel
theorem dJ6_stringSize_0f7a4_3 : decode cJ6_stringSize_0f7a4 3 = .ok (.ifCond .lt 8, 3) := by decide +kernel
theorem dJ6_stringSize_0f7a4_6 : decode cJ6_stringSize_0f7a4 6 = .ok (.iconst 0, 1) := by decide +kernel
theorem dJ6_stringSize_0f7a4_7 : decode cJ6_stringSize_0f7a4 7 = .ok (.istore_n 1, 1) := by decide +kernel
theorem dJ6_stringSize_0f7a4_8 : decode cJ6_stringSize_0f7a4 8 = .ok (.iload_n 0, 1) := by decide +kernel
theorem dJ6_stringSize_0f7a4_9 : decode cJ6_stringSize_0f7a4 9 = .ok (.ineg, 1) := by decide +kernel
theorem dJ6_stringSize_0f7a4_10 : decode cJ6_stringSize_0f7a4 10 = .ok (.istore_n 0, 1) := by decide +kernel
theorem dJ6_stringSize_0f7a4_11 : decode cJ6_stringSize_0f7a4 11 = .ok (.bipush (-10), 2) := by decide +kernel
theorem dJ6_stringSize_0f7a4_13 : decode cJ6_stringSize_0f7a4 13 = .ok (.istore_n 2, 1) := by decide +kernel
theorem dJ6_stringSize_0f7a4_14 : decode cJ6_stringSize_0f7a4 14 = .ok (.iconst 1, 1) := by decide +kernel
theorem dJ6_stringSize_0f7a4_15 : decode cJ6_stringSize_0f7a4 15 = .ok (.istore_n 3, 1) := by decide +kernel
theorem dJ6_stringSize_0f7a4_16 : decode cJ6_stringSize_0f7a4 16 = .ok (.iload_n 3, 1) := by decide +kernel
theorem dJ6_stringSize_0f7a4_17 : decode cJ6_stringSize_0f7a4 17 = .ok (.bipush 10, 2) := by decide +kernel
theorem dJ6_stringSize_0f7a4_19 : decode cJ6_stringSize_0f7a4 19 = .ok (.if_icmp .ge 23, 3) := by decide +kernel
theorem dJ6_stringSize_0f7a4_22 : decode cJ6_stringSize_0f7a4 22 = .ok (.iload_n 0, 1) := by decide +kernel
theorem dJ6_stringSize_0f7a4_23 : decode cJ6_stringSize_0f7a4 23 = .ok (.iload_n 2, 1) := by decide +kernel
theorem dJ6_stringSize_0f7a4_24 : decode cJ6_stringSize_0f7a4 24 = .ok (.if_icmp .le 7, 3) := by decide +kernel
theorem dJ6_stringSize_0f7a4_27 : decode cJ6_stringSize_0f7a4 27 = .ok (.iload_n 3, 1) := by decide +kernel
theorem dJ6_stringSize_0f7a4_28 : decode cJ6_stringSize_0f7a4 28 = .ok (.iload_n 1, 1) := by decide +kernel
theorem dJ6_stringSize_0f7a4_29 : decode cJ6_stringSize_0f7a4 29 = .ok (.iadd, 1) := by decide +kernel
theorem dJ6_stringSize_0f7a4_30 : decode cJ6_stringSize_0f7a4 30 = .ok (.ireturn, 1) := by decide +kernel
theorem dJ6_stringSize_0f7a4_31 : decode cJ6_stringSize_0f7a4 31 = .ok (.bipush 10, 2) := by decide +kernel
theorem dJ6_stringSize_0f7a4_33 : decode cJ6_stringSize_0f7a4 33 = .ok (.iload_n 2, 1) := by decide +kernel
theorem dJ6_stringSize_0f7a4_34 : decode cJ6_stringSize_0f7a4 34 = .ok (.imul, 1) := by decide +kernel
theorem dJ6_stringSize_0f7a4_35 : decode cJ6_stringSize_0f7a4 35 = .ok (.istore_n 2, 1) := by decide +kernel
theorem dJ6_stringSize_0f7a4_36 : decode cJ6_stringSize_0f7a4 36 = .ok (.iinc 3 1, 3) := by decide +kernel
theorem dJ6_stringSize_0f7a4_39 : decode cJ6_stringSize_0f7a4 39 = .ok (.goto (-23), 3) := by decide +kernel
set_option maxRecDepth 100000 in
set_option maxHeartbeats 400000 in
theorem E_J6_stringSize_0f7a4 (v : Int) : ME yJ6_stringSize_0f7a4 cJ6_stringSize_0f7a4 4 (some .int) 0 0 0 0 (fun DA => [.int (I v)]) (fun DA mm R => (0 ≤ v ∧ v < 1000) ∧ R (.ok (some (.int (I (((dg v).length : Nat) : Int))))) mm) := by
  refine ME_of (env0 := fun DA => [(0, .int (I v))]) (by decide) (fun DA => by exact Nat.le_of_ble_eq_true rfl) (fun DA => by rfl) (fun k mm R X C hR hN hr hname hP => ?_)
  have X : CX k cJ6_stringSize_0f7a4 RJ6 := X
  have hT := TH_ofE C
  have htr := C.2.2.2.1
  have ho : HO k := C.2.2.2.2
  obtain ⟨h1, h2⟩ := hP
  refine g_iconst (v := I 1) X dJ6_stringSize_0f7a4_0 rfl ?_
  refine g_istore_n (env' := [(1, .int (I 1)), (0, .int (I v))]) X dJ6_stringSize_0f7a4_1 rfl (by rw [hN]; decide) rfl ?_
  refine g_iload_n 1 X dJ6_stringSize_0f7a4_2 rfl rfl ?_
  refine t_ltF 11 X dJ6_stringSize_0f7a4_3 (by decide) (by rw [show (0 : Int32) = I 0 from rfl, I_lt (by omega) (by omega) (by omega) (by omega)]; omega) ?_
  refine g_iconst (v := I 0) X dJ6_stringSize_0f7a4_6 rfl ?_
  refine g_istore_n (env' := [(1, .int (I 0)), (0, .int (I v))]) X dJ6_stringSize_0f7a4_7 rfl (by rw [hN]; decide) rfl ?_
  refine g_iload_n 1 X dJ6_stringSize_0f7a4_8 rfl rfl ?_
  refine g_ineg X dJ6_stringSize_0f7a4_9 ?_
  rw [I_neg]
  refine g_istore_n (env' := [(0, .int (I (-v))), (1, .int (I 0))]) X dJ6_stringSize_0f7a4_10 rfl (by rw [hN]; decide) rfl ?_
  refine g_bipush (v := I (-10)) X dJ6_stringSize_0f7a4_11 (by decide) ?_
  refine g_istore_n (env' := [(2, .int (I (-10))), (0, .int (I (-v))), (1, .int (I 0))]) X dJ6_stringSize_0f7a4_13 rfl (by rw [hN]; decide) rfl ?_
  refine g_iconst (v := I 1) X dJ6_stringSize_0f7a4_14 rfl ?_
  refine g_istore_n (env' := [(3, .int (I 1)), (2, .int (I (-10))), (0, .int (I (-v))), (1, .int (I 0))]) X dJ6_stringSize_0f7a4_15 rfl (by rw [hN]; decide) rfl ?_
  refine g_iload_n 0 X dJ6_stringSize_0f7a4_16 rfl rfl ?_
  refine g_bipush (v := I 10) X dJ6_stringSize_0f7a4_17 (by decide) ?_
  refine t_cgeF 42 X dJ6_stringSize_0f7a4_19 (by decide) (by decide) ?_
  refine g_iload_n 2 X dJ6_stringSize_0f7a4_22 rfl rfl ?_
  refine g_iload_n 1 X dJ6_stringSize_0f7a4_23 rfl rfl ?_
  by_cases c1 : v < 10
  · skip
    refine t_cleF 31 X dJ6_stringSize_0f7a4_24 (by decide) (by rw [I_le (by omega) (by omega) (by omega) (by omega)]; omega) ?_
    refine g_iload_n 0 X dJ6_stringSize_0f7a4_27 rfl rfl ?_
    refine g_iload_n 3 X dJ6_stringSize_0f7a4_28 rfl rfl ?_
    refine g_iadd X dJ6_stringSize_0f7a4_29 ?_
    rw [show I 1 + I 0 = I 1 from by decide]
    have e : (((dg v).length : Nat) : Int) = 1 := by unfold dg; rw [if_pos c1]; rfl
    rw [e] at h2
    exact e_iret X C hr rfl dJ6_stringSize_0f7a4_30 (by rw [hR]; exact Nat.le_of_ble_eq_true rfl) (by rw [hR]; exact Nat.le_of_ble_eq_true rfl) (h2)
  · skip
    refine t_cleT (tgt := 31) X dJ6_stringSize_0f7a4_24 (by decide) (by rw [I_le (by omega) (by omega) (by omega) (by omega)]; omega) ?_
    refine g_bipush (v := I 10) X dJ6_stringSize_0f7a4_31 (by decide) ?_
    refine g_iload_n 1 X dJ6_stringSize_0f7a4_33 rfl rfl ?_
    refine g_imul X dJ6_stringSize_0f7a4_34 ?_
    rw [show I 10 * I (-10) = I (-100) from by decide]
    refine g_istore_n (env' := [(2, .int (I (-100))), (3, .int (I 1)), (0, .int (I (-v))), (1, .int (I 0))]) X dJ6_stringSize_0f7a4_35 rfl (by rw [hN]; decide) rfl ?_
    refine g_iinc (v := (I 2)) (env' := [(3, .int (I 2)), (2, .int (I (-100))), (0, .int (I (-v))), (1, .int (I 0))]) 1 X dJ6_stringSize_0f7a4_36 rfl (by decide) (by rw [hN]; decide) rfl ?_
    refine g_goto (tgt := 16) X dJ6_stringSize_0f7a4_39 (by decide) ?_
    refine g_iload_n 0 X dJ6_stringSize_0f7a4_16 rfl rfl ?_
    refine g_bipush (v := I 10) X dJ6_stringSize_0f7a4_17 (by decide) ?_
    refine t_cgeF 42 X dJ6_stringSize_0f7a4_19 (by decide) (by decide) ?_
    refine g_iload_n 2 X dJ6_stringSize_0f7a4_22 rfl rfl ?_
    refine g_iload_n 1 X dJ6_stringSize_0f7a4_23 rfl rfl ?_
    by_cases c2 : v < 100
    · skip
      refine t_cleF 31 X dJ6_stringSize_0f7a4_24 (by decide) (by rw [I_le (by omega) (by omega) (by omega) (by omega)]; omega) ?_
      refine g_iload_n 0 X dJ6_stringSize_0f7a4_27 rfl rfl ?_
      refine g_iload_n 3 X dJ6_stringSize_0f7a4_28 rfl rfl ?_
      refine g_iadd X dJ6_stringSize_0f7a4_29 ?_
      rw [show I 2 + I 0 = I 2 from by decide]
      have e : (((dg v).length : Nat) : Int) = 2 := by unfold dg; rw [if_neg c1, if_pos c2]; rfl
      rw [e] at h2
      exact e_iret X C hr rfl dJ6_stringSize_0f7a4_30 (by rw [hR]; exact Nat.le_of_ble_eq_true rfl) (by rw [hR]; exact Nat.le_of_ble_eq_true rfl) (h2)
    · skip
      refine t_cleT (tgt := 31) X dJ6_stringSize_0f7a4_24 (by decide) (by rw [I_le (by omega) (by omega) (by omega) (by omega)]; omega) ?_
      refine g_bipush (v := I 10) X dJ6_stringSize_0f7a4_31 (by decide) ?_
      refine g_iload_n 1 X dJ6_stringSize_0f7a4_33 rfl rfl ?_
      refine g_imul X dJ6_stringSize_0f7a4_34 ?_
      rw [show I 10 * I (-100) = I (-1000) from by decide]
      refine g_istore_n (env' := [(2, .int (I (-1000))), (3, .int (I 2)), (0, .int (I (-v))), (1, .int (I 0))]) X dJ6_stringSize_0f7a4_35 rfl (by rw [hN]; decide) rfl ?_
      refine g_iinc (v := (I 3)) (env' := [(3, .int (I 3)), (2, .int (I (-1000))), (0, .int (I (-v))), (1, .int (I 0))]) 1 X dJ6_stringSize_0f7a4_36 rfl (by decide) (by rw [hN]; decide) rfl ?_
      refine g_goto (tgt := 16) X dJ6_stringSize_0f7a4_39 (by decide) ?_
      refine g_iload_n 0 X dJ6_stringSize_0f7a4_16 rfl rfl ?_
      refine g_bipush (v := I 10) X dJ6_stringSize_0f7a4_17 (by decide) ?_
      refine t_cgeF 42 X dJ6_stringSize_0f7a4_19 (by decide) (by decide) ?_
      refine g_iload_n 2 X dJ6_stringSize_0f7a4_22 rfl rfl ?_
      refine g_iload_n 1 X dJ6_stringSize_0f7a4_23 rfl rfl ?_
      refine t_cleF 31 X dJ6_stringSize_0f7a4_24 (by decide) (by rw [I_le (by omega) (by omega) (by omega) (by omega)]; omega) ?_
      refine g_iload_n 0 X dJ6_stringSize_0f7a4_27 rfl rfl ?_
      refine g_iload_n 3 X dJ6_stringSize_0f7a4_28 rfl rfl ?_
      refine g_iadd X dJ6_stringSize_0f7a4_29 ?_
      rw [show I 3 + I 0 = I 3 from by decide]
      have e : (((dg v).length : Nat) : Int) = 3 := by unfold dg; rw [if_neg c1, if_neg c2]; rfl
      rw [e] at h2
      exact e_iret X C hr rfl dJ6_stringSize_0f7a4_30 (by rw [hR]; exact Nat.le_of_ble_eq_true rfl) (by rw [hR]; exact Nat.le_of_ble_eq_true rfl) (h2)
abbrev cJ6_getChars_ba4f3 : ByteArray := prog_16_method_12_code
def yJ6_getChars_ba4f3 : MethodName := ⟨RJ6, "getChars", "(II[B)I"⟩
theorem lk_J6_getChars_ba4f3 : LK yJ6_getChars_ba4f3 cJ6_getChars_ba4f3 7 (some .int) 3 := ⟨(qW_at 842 (by decide +kernel) rfl), (qW_at 46 (by decide +kernel) rfl), by decide, by decide, by decide +kernel⟩
theorem st_J6_getChars_ba4f3 : Cond.static yJ6_getChars_ba4f3 ∈ qW := (qW_at 841 (by decide +kernel) rfl)
theorem dJ6_getChars_ba4f3_0 : decode cJ6_getChars_ba4f3 0 = .ok (.iload_n 1, 1) := by decide +kernel
theorem dJ6_getChars_ba4f3_1 : decode cJ6_getChars_ba4f3 1 = .ok (.istore 5, 2) := by decide +kernel
theorem dJ6_getChars_ba4f3_3 : decode cJ6_getChars_ba4f3 3 = .ok (.iload_n 0, 1) := by decide +kernel
theorem dJ6_getChars_ba4f3_4 : decode cJ6_getChars_ba4f3 4 = .ok (.ifCond .ge 7, 3) := by decide +kernel
theorem dJ6_getChars_ba4f3_11 : decode cJ6_getChars_ba4f3 11 = .ok (.iconst 0, 1) := by decide +kernel
theorem dJ6_getChars_ba4f3_12 : decode cJ6_getChars_ba4f3 12 = .ok (.istore 6, 2) := by decide +kernel
theorem dJ6_getChars_ba4f3_14 : decode cJ6_getChars_ba4f3 14 = .ok (.iload 6, 2) := by decide +kernel
theorem dJ6_getChars_ba4f3_16 : decode cJ6_getChars_ba4f3 16 = .ok (.ifCond .ne 6, 3) := by decide +kernel
theorem dJ6_getChars_ba4f3_19 : decode cJ6_getChars_ba4f3 19 = .ok (.iload_n 0, 1) := by decide +kernel
theorem dJ6_getChars_ba4f3_20 : decode cJ6_getChars_ba4f3 20 = .ok (.ineg, 1) := by decide +kernel
theorem dJ6_getChars_ba4f3_21 : decode cJ6_getChars_ba4f3 21 = .ok (.istore_n 0, 1) := by decide +kernel
theorem dJ6_getChars_ba4f3_22 : decode cJ6_getChars_ba4f3 22 = .ok (.iload_n 0, 1) := by decide +kernel
theorem dJ6_getChars_ba4f3_23 : decode cJ6_getChars_ba4f3 23 = .ok (.bipush (-100), 2) := by decide +kernel
theorem dJ6_getChars_ba4f3_25 : decode cJ6_getChars_ba4f3 25 = .ok (.if_icmp .gt 47, 3) := by decide +kernel
theorem dJ6_getChars_ba4f3_28 : decode cJ6_getChars_ba4f3 28 = .ok (.iload_n 0, 1) := by decide +kernel
theorem dJ6_getChars_ba4f3_29 : decode cJ6_getChars_ba4f3 29 = .ok (.bipush 100, 2) := by decide +kernel
theorem dJ6_getChars_ba4f3_31 : decode cJ6_getChars_ba4f3 31 = .ok (.idiv, 1) := by decide +kernel
theorem dJ6_getChars_ba4f3_32 : decode cJ6_getChars_ba4f3 32 = .ok (.istore_n 3, 1) := by decide +kernel
theorem dJ6_getChars_ba4f3_33 : decode cJ6_getChars_ba4f3 33 = .ok (.iload_n 3, 1) := by decide +kernel
theorem dJ6_getChars_ba4f3_34 : decode cJ6_getChars_ba4f3 34 = .ok (.bipush 100, 2) := by decide +kernel
theorem dJ6_getChars_ba4f3_36 : decode cJ6_getChars_ba4f3 36 = .ok (.imul, 1) := by decide +kernel
theorem dJ6_getChars_ba4f3_37 : decode cJ6_getChars_ba4f3 37 = .ok (.iload_n 0, 1) := by decide +kernel
theorem dJ6_getChars_ba4f3_38 : decode cJ6_getChars_ba4f3 38 = .ok (.isub, 1) := by decide +kernel
theorem dJ6_getChars_ba4f3_39 : decode cJ6_getChars_ba4f3 39 = .ok (.istore 4, 2) := by decide +kernel
theorem dJ6_getChars_ba4f3_41 : decode cJ6_getChars_ba4f3 41 = .ok (.iload_n 3, 1) := by decide +kernel
theorem dJ6_getChars_ba4f3_42 : decode cJ6_getChars_ba4f3 42 = .ok (.istore_n 0, 1) := by decide +kernel
theorem dJ6_getChars_ba4f3_43 : decode cJ6_getChars_ba4f3 43 = .ok (.aload_n 2, 1) := by decide +kernel
theorem dJ6_getChars_ba4f3_44 : decode cJ6_getChars_ba4f3 44 = .ok (.iinc 5 (-1), 3) := by decide +kernel
theorem dJ6_getChars_ba4f3_47 : decode cJ6_getChars_ba4f3 47 = .ok (.iload 5, 2) := by decide +kernel
theorem dJ6_getChars_ba4f3_49 : decode cJ6_getChars_ba4f3 49 = .ok (.getstatic 83, 3) := by decide +kernel
theorem dJ6_getChars_ba4f3_52 : decode cJ6_getChars_ba4f3 52 = .ok (.iload 4, 2) := by decide +kernel
theorem dJ6_getChars_ba4f3_54 : decode cJ6_getChars_ba4f3 54 = .ok (.baload, 1) := by decide +kernel
theorem dJ6_getChars_ba4f3_55 : decode cJ6_getChars_ba4f3 55 = .ok (.bastore, 1) := by decide +kernel
theorem dJ6_getChars_ba4f3_56 : decode cJ6_getChars_ba4f3 56 = .ok (.aload_n 2, 1) := by decide +kernel
theorem dJ6_getChars_ba4f3_57 : decode cJ6_getChars_ba4f3 57 = .ok (.iinc 5 (-1), 3) := by decide +kernel
theorem dJ6_getChars_ba4f3_60 : decode cJ6_getChars_ba4f3 60 = .ok (.iload 5, 2) := by decide +kernel
theorem dJ6_getChars_ba4f3_62 : decode cJ6_getChars_ba4f3 62 = .ok (.getstatic 87, 3) := by decide +kernel
theorem dJ6_getChars_ba4f3_65 : decode cJ6_getChars_ba4f3 65 = .ok (.iload 4, 2) := by decide +kernel
theorem dJ6_getChars_ba4f3_67 : decode cJ6_getChars_ba4f3 67 = .ok (.baload, 1) := by decide +kernel
theorem dJ6_getChars_ba4f3_68 : decode cJ6_getChars_ba4f3 68 = .ok (.bastore, 1) := by decide +kernel
theorem dJ6_getChars_ba4f3_69 : decode cJ6_getChars_ba4f3 69 = .ok (.goto (-47), 3) := by decide +kernel
theorem dJ6_getChars_ba4f3_72 : decode cJ6_getChars_ba4f3 72 = .ok (.aload_n 2, 1) := by decide +kernel
theorem dJ6_getChars_ba4f3_73 : decode cJ6_getChars_ba4f3 73 = .ok (.iinc 5 (-1), 3) := by decide +kernel
theorem dJ6_getChars_ba4f3_76 : decode cJ6_getChars_ba4f3 76 = .ok (.iload 5, 2) := by decide +kernel
theorem dJ6_getChars_ba4f3_78 : decode cJ6_getChars_ba4f3 78 = .ok (.getstatic 83, 3) := by decide +kernel
theorem dJ6_getChars_ba4f3_81 : decode cJ6_getChars_ba4f3 81 = .ok (.iload_n 0, 1) := by decide +kernel
theorem dJ6_getChars_ba4f3_82 : decode cJ6_getChars_ba4f3 82 = .ok (.ineg, 1) := by decide +kernel
theorem dJ6_getChars_ba4f3_83 : decode cJ6_getChars_ba4f3 83 = .ok (.baload, 1) := by decide +kernel
theorem dJ6_getChars_ba4f3_84 : decode cJ6_getChars_ba4f3 84 = .ok (.bastore, 1) := by decide +kernel
theorem dJ6_getChars_ba4f3_85 : decode cJ6_getChars_ba4f3 85 = .ok (.iload_n 0, 1) := by decide +kernel
theorem dJ6_getChars_ba4f3_86 : decode cJ6_getChars_ba4f3 86 = .ok (.bipush (-9), 2) := by decide +kernel
theorem dJ6_getChars_ba4f3_88 : decode cJ6_getChars_ba4f3 88 = .ok (.if_icmp .ge 16, 3) := by decide +kernel
theorem dJ6_getChars_ba4f3_91 : decode cJ6_getChars_ba4f3 91 = .ok (.aload_n 2, 1) := by decide +kernel
theorem dJ6_getChars_ba4f3_92 : decode cJ6_getChars_ba4f3 92 = .ok (.iinc 5 (-1), 3) := by decide +kernel
theorem dJ6_getChars_ba4f3_95 : decode cJ6_getChars_ba4f3 95 = .ok (.iload 5, 2) := by decide +kernel
theorem dJ6_getChars_ba4f3_97 : decode cJ6_getChars_ba4f3 97 = .ok (.getstatic 87, 3) := by decide +kernel
theorem dJ6_getChars_ba4f3_100 : decode cJ6_getChars_ba4f3 100 = .ok (.iload_n 0, 1) := by decide +kernel
theorem dJ6_getChars_ba4f3_101 : decode cJ6_getChars_ba4f3 101 = .ok (.ineg, 1) := by decide +kernel
theorem dJ6_getChars_ba4f3_102 : decode cJ6_getChars_ba4f3 102 = .ok (.baload, 1) := by decide +kernel
theorem dJ6_getChars_ba4f3_103 : decode cJ6_getChars_ba4f3 103 = .ok (.bastore, 1) := by decide +kernel
theorem dJ6_getChars_ba4f3_104 : decode cJ6_getChars_ba4f3 104 = .ok (.iload 6, 2) := by decide +kernel
theorem dJ6_getChars_ba4f3_106 : decode cJ6_getChars_ba4f3 106 = .ok (.ifCond .eq 12, 3) := by decide +kernel
theorem dJ6_getChars_ba4f3_118 : decode cJ6_getChars_ba4f3 118 = .ok (.iload 5, 2) := by decide +kernel
theorem dJ6_getChars_ba4f3_120 : decode cJ6_getChars_ba4f3 120 = .ok (.ireturn, 1) := by decide +kernel
set_option maxRecDepth 100000 in
set_option maxHeartbeats 1600000 in
theorem E_J6_getChars_ba4f3 (v : Int) (i a n : Nat) : ME yJ6_getChars_ba4f3 cJ6_getChars_ba4f3 7 (some .int) 0 0 0 0 (fun DA => [.int (I v), .int (I (i : Int)), .ref a]) (fun DA mm R => (0 ≤ v ∧ v < 1000) ∧ qty mm a = (2, 2, n) ∧ (n ≤ 34 ∧ (dg v).length ≤ i ∧ i ≤ n) ∧ ∀ u, R (.ok (some (.int u))) (dgm mm a i v)) := by
  refine ME_of (env0 := fun DA => [(0, .int (I v)), (1, .int (I (i : Int))), (2, .ref a)]) (by decide) (fun DA => by exact Nat.le_of_ble_eq_true rfl) (fun DA => by rfl) (fun k mm R X C hR hN hr hname hP => ?_)
  have X : CX k cJ6_getChars_ba4f3 RJ6 := X
  have hT := TH_ofE C
  have htr := C.2.2.2.1
  have ho : HO k := C.2.2.2.2
  obtain ⟨h1, h2, ⟨h3, h5, h6⟩, h4⟩ := hP
  refine g_iload_n 1 X dJ6_getChars_ba4f3_0 rfl rfl ?_
  refine g_istore (env' := [(5, .int (I (i : Int))), (0, .int (I v)), (1, .int (I (i : Int))), (2, .ref a)]) X dJ6_getChars_ba4f3_1 (by rw [hN]; decide) rfl ?_
  refine g_iload_n 1 X dJ6_getChars_ba4f3_3 rfl rfl ?_
  refine t_geT (tgt := 11) X dJ6_getChars_ba4f3_4 (by decide) (by rw [show (0 : Int32) = I 0 from rfl, I_le (by omega) (by omega) (by omega) (by omega)]; omega) ?_
  refine g_iconst (v := I 0) X dJ6_getChars_ba4f3_11 rfl ?_
  refine g_istore (env' := [(6, .int (I 0)), (5, .int (I (i : Int))), (0, .int (I v)), (1, .int (I (i : Int))), (2, .ref a)]) X dJ6_getChars_ba4f3_12 (by rw [hN]; decide) rfl ?_
  refine g_iload 0 X dJ6_getChars_ba4f3_14 rfl ?_
  refine t_neF 22 X dJ6_getChars_ba4f3_16 (by decide) (by decide) ?_
  refine g_iload_n 2 X dJ6_getChars_ba4f3_19 rfl rfl ?_
  refine g_ineg X dJ6_getChars_ba4f3_20 ?_
  rw [I_neg]
  refine g_istore_n (env' := [(0, .int (I (-v))), (6, .int (I 0)), (5, .int (I (i : Int))), (1, .int (I (i : Int))), (2, .ref a)]) X dJ6_getChars_ba4f3_21 rfl (by rw [hN]; decide) rfl ?_
  refine g_iload_n 0 X dJ6_getChars_ba4f3_22 rfl rfl ?_
  refine g_bipush (v := I (-100)) X dJ6_getChars_ba4f3_23 (by decide) ?_
  have hin : ∀ z : Int, 0 ≤ z → z < 100 → vp_in (I z) 100 := fun z z0 z1 q => by
    rcases q with q | q
    · rw [show (0 : Int32) = I 0 from rfl, I_lt (by omega) (by omega) (by omega) (by omega)] at q; omega
    · rw [clamp_I z0 (by omega)] at q; omega
  have hix : ∀ d : Nat, 1 ≤ d → d ≤ i → vp_in (I ((i : Int) - d)) n := fun d d0 d1 q => by
    rcases q with q | q
    · rw [show (0 : Int32) = I 0 from rfl, I_lt (by omega) (by omega) (by omega) (by omega)] at q; omega
    · rw [clamp_I (by omega) (by omega)] at q; omega
  have hcl : ∀ (d : Nat) (e : Int), e = d → d ≤ i → (I ((i : Int) - e)).toNatClampNeg = i - d := fun d e q d1 => by rw [clamp_I (by omega) (by omega)]; omega
  have hd : ∀ z : Int, dgm mm a i z = dgm mm a i z := fun _ => rfl
  by_cases c2 : v < 100
  · skip
    refine t_cgtT (tgt := 72) X dJ6_getChars_ba4f3_25 (by decide) (by rw [I_lt (by omega) (by omega) (by omega) (by omega)]; omega) ?_
    by_cases c1 : v < 10
    · skip
      have hl : 1 ≤ i := by have e : (dg v).length = 1 := (by unfold dg; rw [if_pos c1]; rfl); omega
      rw [show dgm mm a i v = sai mm a (i - 1) (I (48 + v)) from if_pos c1] at h4
      refine t_al 4 X dJ6_getChars_ba4f3_72 rfl rfl ?_
      refine g_iinc (v := (I ((i : Int) - 1))) (env' := [(5, .int (I ((i : Int) - 1))), (0, .int (I (-v))), (6, .int (I 0)), (1, .int (I (i : Int))), (2, .ref a)]) 2 X dJ6_getChars_ba4f3_73 rfl ((I_add _ (-1)).trans (congrArg I (by omega))) (by rw [hN]; decide) rfl ?_
      refine g_iload 0 X dJ6_getChars_ba4f3_76 rfl ?_
      refine t_digO X ho (qW_at 843 (by decide +kernel) rfl) dJ6_getChars_ba4f3_78 (fun ad1 had1 => ?_)
      refine g_iload_n 1 X dJ6_getChars_ba4f3_81 rfl rfl ?_
      refine g_ineg X dJ6_getChars_ba4f3_82 ?_
      rw [I_neg, show -(-v) = v from by omega]
      refine t_tb X ho had1 (hin (v) (by omega) (by omega)) (v := .int (I (48 + v))) (congrArg Value.int ((dO_I (by omega) (by omega)).trans (congrArg I (show 48 + (v) % 10 = 48 + v from by omega)))) dJ6_getChars_ba4f3_83 ?_
      refine g_bast (n := n) X h2 (fb_I (c := 48 + v) (by omega) (by omega)).2 (hix 1 (by omega) (by omega)) dJ6_getChars_ba4f3_84 ?_
      rw [hcl 1 1 rfl (by omega)]
      refine g_iload_n 1 X dJ6_getChars_ba4f3_85 rfl rfl ?_
      refine g_bipush (v := I (-9)) X dJ6_getChars_ba4f3_86 (by decide) ?_
      refine t_cgeT (tgt := 104) X dJ6_getChars_ba4f3_88 (by decide) (by rw [I_le (by omega) (by omega) (by omega) (by omega)]; omega) ?_
      refine g_iload 2 X dJ6_getChars_ba4f3_104 rfl ?_
      refine t_eqT (tgt := 118) X dJ6_getChars_ba4f3_106 (by decide) (by decide) ?_
      refine g_iload 0 X dJ6_getChars_ba4f3_118 rfl ?_
      exact e_iret X C hr rfl dJ6_getChars_ba4f3_120 (by rw [hR]; exact Nat.le_of_ble_eq_true rfl) (by rw [hR]; exact Nat.le_of_ble_eq_true rfl) (h4 _)
    · skip
      have hl : 2 ≤ i := by have e : (dg v).length = 2 := (by unfold dg; rw [if_neg c1, if_pos c2]; rfl); omega
      rw [show dgm mm a i v = sai (sai mm a (i - 1) (I (48 + v % 10))) a (i - 2) (I (48 + v / 10)) from (if_neg c1).trans (if_pos c2)] at h4
      refine t_al 4 X dJ6_getChars_ba4f3_72 rfl rfl ?_
      refine g_iinc (v := (I ((i : Int) - 1))) (env' := [(5, .int (I ((i : Int) - 1))), (0, .int (I (-v))), (6, .int (I 0)), (1, .int (I (i : Int))), (2, .ref a)]) 2 X dJ6_getChars_ba4f3_73 rfl ((I_add _ (-1)).trans (congrArg I (by omega))) (by rw [hN]; decide) rfl ?_
      refine g_iload 0 X dJ6_getChars_ba4f3_76 rfl ?_
      refine t_digO X ho (qW_at 843 (by decide +kernel) rfl) dJ6_getChars_ba4f3_78 (fun ad1 had1 => ?_)
      refine g_iload_n 1 X dJ6_getChars_ba4f3_81 rfl rfl ?_
      refine g_ineg X dJ6_getChars_ba4f3_82 ?_
      rw [I_neg, show -(-v) = v from by omega]
      refine t_tb X ho had1 (hin (v) (by omega) (by omega)) (v := .int (I (48 + v % 10))) (congrArg Value.int ((dO_I (by omega) (by omega)).trans (congrArg I (show 48 + (v) % 10 = 48 + v % 10 from by omega)))) dJ6_getChars_ba4f3_83 ?_
      refine g_bast (n := n) X h2 (fb_I (c := 48 + v % 10) (by omega) (by omega)).2 (hix 1 (by omega) (by omega)) dJ6_getChars_ba4f3_84 ?_
      rw [hcl 1 1 rfl (by omega)]
      refine g_iload_n 1 X dJ6_getChars_ba4f3_85 rfl rfl ?_
      refine g_bipush (v := I (-9)) X dJ6_getChars_ba4f3_86 (by decide) ?_
      refine t_cgeF 104 X dJ6_getChars_ba4f3_88 (by decide) (by rw [I_le (by omega) (by omega) (by omega) (by omega)]; omega) ?_
      refine t_al 4 X dJ6_getChars_ba4f3_91 rfl rfl ?_
      refine g_iinc (v := (I ((i : Int) - 2))) (env' := [(5, .int (I ((i : Int) - 2))), (0, .int (I (-v))), (6, .int (I 0)), (1, .int (I (i : Int))), (2, .ref a)]) 0 X dJ6_getChars_ba4f3_92 rfl ((I_add _ (-1)).trans (congrArg I (by omega))) (by rw [hN]; decide) rfl ?_
      refine g_iload 0 X dJ6_getChars_ba4f3_95 rfl ?_
      refine t_digT X ho (qW_at 845 (by decide +kernel) rfl) dJ6_getChars_ba4f3_97 (fun ad2 had2 => ?_)
      refine g_iload_n 1 X dJ6_getChars_ba4f3_100 rfl rfl ?_
      refine g_ineg X dJ6_getChars_ba4f3_101 ?_
      rw [I_neg, show -(-v) = v from by omega]
      refine t_tb X ho had2 (hin (v) (by omega) (by omega)) (v := .int (I (48 + v / 10))) (congrArg Value.int ((dT_I (by omega) (by omega)).trans (congrArg I (show 48 + (v) / 10 = 48 + v / 10 from by omega)))) dJ6_getChars_ba4f3_102 ?_
      refine g_bast (n := n) X h2 (fb_I (c := 48 + v / 10) (by omega) (by omega)).2 (hix 2 (by omega) (by omega)) dJ6_getChars_ba4f3_103 ?_
      rw [hcl 2 2 rfl (by omega)]
      refine g_iload 2 X dJ6_getChars_ba4f3_104 rfl ?_
      refine t_eqT (tgt := 118) X dJ6_getChars_ba4f3_106 (by decide) (by decide) ?_
      refine g_iload 0 X dJ6_getChars_ba4f3_118 rfl ?_
      exact e_iret X C hr rfl dJ6_getChars_ba4f3_120 (by rw [hR]; exact Nat.le_of_ble_eq_true rfl) (by rw [hR]; exact Nat.le_of_ble_eq_true rfl) (h4 _)
  · skip
    have c1 : ¬ v < 10 := by omega
    have hl : 3 ≤ i := by have e : (dg v).length = 3 := (by unfold dg; rw [if_neg c1, if_neg c2]; rfl); omega
    rw [show dgm mm a i v = sai (sai (sai mm a (i - 1) (I (48 + v % 10))) a (i - 2) (I (48 + v / 10 % 10))) a (i - 3) (I (48 + v / 100)) from (if_neg c1).trans (if_neg c2)] at h4
    refine t_cgtF 72 X dJ6_getChars_ba4f3_25 (by decide) (by rw [I_lt (by omega) (by omega) (by omega) (by omega)]; omega) ?_
    refine g_iload_n 0 X dJ6_getChars_ba4f3_28 rfl rfl ?_
    refine g_bipush (v := I 100) X dJ6_getChars_ba4f3_29 (by decide) ?_
    refine g_idiv X dJ6_getChars_ba4f3_31 (by decide) ?_
    rw [dv_I h1.1 h1.2]
    refine g_istore_n (env' := [(3, .int (I (-(v / 100)))), (0, .int (I (-v))), (6, .int (I 0)), (5, .int (I (i : Int))), (1, .int (I (i : Int))), (2, .ref a)]) X dJ6_getChars_ba4f3_32 rfl (by rw [hN]; decide) rfl ?_
    refine g_iload_n 0 X dJ6_getChars_ba4f3_33 rfl rfl ?_
    refine g_bipush (v := I 100) X dJ6_getChars_ba4f3_34 (by decide) ?_
    refine g_imul X dJ6_getChars_ba4f3_36 ?_
    rw [I_mul]
    refine g_iload_n 1 X dJ6_getChars_ba4f3_37 rfl rfl ?_
    refine g_isub X dJ6_getChars_ba4f3_38 ?_
    rw [I_sub, show -(v / 100) * 100 - -v = v % 100 from by omega]
    refine g_istore (env' := [(4, .int (I (v % 100))), (3, .int (I (-(v / 100)))), (0, .int (I (-v))), (6, .int (I 0)), (5, .int (I (i : Int))), (1, .int (I (i : Int))), (2, .ref a)]) X dJ6_getChars_ba4f3_39 (by rw [hN]; decide) rfl ?_
    refine g_iload_n 1 X dJ6_getChars_ba4f3_41 rfl rfl ?_
    refine g_istore_n (env' := [(0, .int (I (-(v / 100)))), (4, .int (I (v % 100))), (3, .int (I (-(v / 100)))), (6, .int (I 0)), (5, .int (I (i : Int))), (1, .int (I (i : Int))), (2, .ref a)]) X dJ6_getChars_ba4f3_42 rfl (by rw [hN]; decide) rfl ?_
    refine t_al 6 X dJ6_getChars_ba4f3_43 rfl rfl ?_
    refine g_iinc (v := (I ((i : Int) - 1))) (env' := [(5, .int (I ((i : Int) - 1))), (0, .int (I (-(v / 100)))), (4, .int (I (v % 100))), (3, .int (I (-(v / 100)))), (6, .int (I 0)), (1, .int (I (i : Int))), (2, .ref a)]) 4 X dJ6_getChars_ba4f3_44 rfl ((I_add _ (-1)).trans (congrArg I (by omega))) (by rw [hN]; decide) rfl ?_
    refine g_iload 0 X dJ6_getChars_ba4f3_47 rfl ?_
    refine t_digO X ho (qW_at 843 (by decide +kernel) rfl) dJ6_getChars_ba4f3_49 (fun ad1 had1 => ?_)
    refine g_iload 2 X dJ6_getChars_ba4f3_52 rfl ?_
    refine t_tb X ho had1 (hin (v % 100) (by omega) (by omega)) (v := .int (I (48 + v % 10))) (congrArg Value.int ((dO_I (by omega) (by omega)).trans (congrArg I (show 48 + (v % 100) % 10 = 48 + v % 10 from by omega)))) dJ6_getChars_ba4f3_54 ?_
    refine g_bast (n := n) X h2 (fb_I (c := 48 + v % 10) (by omega) (by omega)).2 (hix 1 (by omega) (by omega)) dJ6_getChars_ba4f3_55 ?_
    rw [hcl 1 1 rfl (by omega)]
    refine t_al 6 X dJ6_getChars_ba4f3_56 rfl rfl ?_
    refine g_iinc (v := (I ((i : Int) - 2))) (env' := [(5, .int (I ((i : Int) - 2))), (0, .int (I (-(v / 100)))), (4, .int (I (v % 100))), (3, .int (I (-(v / 100)))), (6, .int (I 0)), (1, .int (I (i : Int))), (2, .ref a)]) 0 X dJ6_getChars_ba4f3_57 rfl ((I_add _ (-1)).trans (congrArg I (by omega))) (by rw [hN]; decide) rfl ?_
    refine g_iload 0 X dJ6_getChars_ba4f3_60 rfl ?_
    refine t_digT X ho (qW_at 845 (by decide +kernel) rfl) dJ6_getChars_ba4f3_62 (fun ad2 had2 => ?_)
    refine g_iload 2 X dJ6_getChars_ba4f3_65 rfl ?_
    refine t_tb X ho had2 (hin (v % 100) (by omega) (by omega)) (v := .int (I (48 + v / 10 % 10))) (congrArg Value.int ((dT_I (by omega) (by omega)).trans (congrArg I (show 48 + (v % 100) / 10 = 48 + v / 10 % 10 from by omega)))) dJ6_getChars_ba4f3_67 ?_
    refine g_bast (n := n) X h2 (fb_I (c := 48 + v / 10 % 10) (by omega) (by omega)).2 (hix 2 (by omega) (by omega)) dJ6_getChars_ba4f3_68 ?_
    rw [hcl 2 2 rfl (by omega)]
    refine g_goto (tgt := 22) X dJ6_getChars_ba4f3_69 (by decide) ?_
    refine g_iload_n 1 X dJ6_getChars_ba4f3_22 rfl rfl ?_
    refine g_bipush (v := I (-100)) X dJ6_getChars_ba4f3_23 (by decide) ?_
    refine t_cgtT (tgt := 72) X dJ6_getChars_ba4f3_25 (by decide) (by rw [I_lt (by omega) (by omega) (by omega) (by omega)]; omega) ?_
    refine t_al 6 X dJ6_getChars_ba4f3_72 rfl rfl ?_
    refine g_iinc (v := (I ((i : Int) - 3))) (env' := [(5, .int (I ((i : Int) - 3))), (0, .int (I (-(v / 100)))), (4, .int (I (v % 100))), (3, .int (I (-(v / 100)))), (6, .int (I 0)), (1, .int (I (i : Int))), (2, .ref a)]) 0 X dJ6_getChars_ba4f3_73 rfl ((I_add _ (-1)).trans (congrArg I (by omega))) (by rw [hN]; decide) rfl ?_
    refine g_iload 0 X dJ6_getChars_ba4f3_76 rfl ?_
    refine t_digO X ho (qW_at 843 (by decide +kernel) rfl) dJ6_getChars_ba4f3_78 (fun ad3 had3 => ?_)
    refine g_iload_n 1 X dJ6_getChars_ba4f3_81 rfl rfl ?_
    refine g_ineg X dJ6_getChars_ba4f3_82 ?_
    rw [I_neg, show -(-(v / 100)) = v / 100 from by omega]
    refine t_tb X ho had3 (hin (v / 100) (by omega) (by omega)) (v := .int (I (48 + v / 100))) (congrArg Value.int ((dO_I (by omega) (by omega)).trans (congrArg I (show 48 + (v / 100) % 10 = 48 + v / 100 from by omega)))) dJ6_getChars_ba4f3_83 ?_
    refine g_bast (n := n) X h2 (fb_I (c := 48 + v / 100) (by omega) (by omega)).2 (hix 3 (by omega) (by omega)) dJ6_getChars_ba4f3_84 ?_
    rw [hcl 3 3 rfl (by omega)]
    refine g_iload_n 1 X dJ6_getChars_ba4f3_85 rfl rfl ?_
    refine g_bipush (v := I (-9)) X dJ6_getChars_ba4f3_86 (by decide) ?_
    refine t_cgeT (tgt := 104) X dJ6_getChars_ba4f3_88 (by decide) (by rw [I_le (by omega) (by omega) (by omega) (by omega)]; omega) ?_
    refine g_iload 4 X dJ6_getChars_ba4f3_104 rfl ?_
    refine t_eqT (tgt := 118) X dJ6_getChars_ba4f3_106 (by decide) (by decide) ?_
    refine g_iload 0 X dJ6_getChars_ba4f3_118 rfl ?_
    exact e_iret X C hr rfl dJ6_getChars_ba4f3_120 (by rw [hR]; exact Nat.le_of_ble_eq_true rfl) (by rw [hR]; exact Nat.le_of_ble_eq_true rfl) (h4 _)
abbrev cJ5_append_c97b9 : ByteArray := prog_10_method_32_code
def yJ5_append_c97b9 : MethodName := ⟨RJ5, "append", "(I)Ljava/lang/AbstractStringBuilder;"⟩
theorem lk_J5_append_c97b9 : LK yJ5_append_c97b9 cJ5_append_c97b9 4 (some (.object "java/lang/AbstractStringBuilder")) 1 := ⟨(qW_at 836 (by decide +kernel) rfl), (qW_at 47 (by decide +kernel) rfl), by decide, by decide, by decide +kernel⟩
theorem im_J5_append_c97b9 : Cond.instanceMethod yJ5_append_c97b9 ∈ qW := (qW_at 835 (by decide +kernel) rfl)
theorem sm_J5_append_c97b9 : Cond.sameMethod yJ5_append_c97b9.cls yJ5_append_c97b9.cls yJ5_append_c97b9.name yJ5_append_c97b9.desc ∈ qW := (qW_at 1298 (by decide +kernel) rfl)
theorem dJ5_append_c97b9_0 : decode cJ5_append_c97b9 0 = .ok (.aload_n 0, 1) := by decide +kernel
theorem dJ5_append_c97b9_1 : decode cJ5_append_c97b9 1 = .ok (.getfield 79, 3) := by decide +kernel
theorem dJ5_append_c97b9_4 : decode cJ5_append_c97b9 4 = .ok (.istore_n 2, 1) := by decide +kernel
theorem dJ5_append_c97b9_5 : decode cJ5_append_c97b9 5 = .ok (.iload_n 2, 1) := by decide +kernel
theorem dJ5_append_c97b9_6 : decode cJ5_append_c97b9 6 = .ok (.iload_n 1, 1) := by decide +kernel
theorem dJ5_append_c97b9_7 : decode cJ5_append_c97b9 7 = .ok (.invokestatic 245, 3) := by decide +kernel
theorem dJ5_append_c97b9_10 : decode cJ5_append_c97b9 10 = .ok (.iadd, 1) := by decide +kernel
theorem dJ5_append_c97b9_11 : decode cJ5_append_c97b9 11 = .ok (.istore_n 3, 1) := by decide +kernel
theorem dJ5_append_c97b9_12 : decode cJ5_append_c97b9 12 = .ok (.aload_n 0, 1) := by decide +kernel
theorem dJ5_append_c97b9_13 : decode cJ5_append_c97b9 13 = .ok (.iload_n 3, 1) := by decide +kernel
theorem dJ5_append_c97b9_14 : decode cJ5_append_c97b9 14 = .ok (.invokevirtual 100, 3) := by decide +kernel
theorem dJ5_append_c97b9_17 : decode cJ5_append_c97b9 17 = .ok (.aload_n 0, 1) := by decide +kernel
theorem dJ5_append_c97b9_18 : decode cJ5_append_c97b9 18 = .ok (.invokevirtual 83, 3) := by decide +kernel
theorem dJ5_append_c97b9_21 : decode cJ5_append_c97b9 21 = .ok (.ifCond .eq 16, 3) := by decide +kernel
theorem dJ5_append_c97b9_24 : decode cJ5_append_c97b9 24 = .ok (.iload_n 1, 1) := by decide +kernel
theorem dJ5_append_c97b9_25 : decode cJ5_append_c97b9 25 = .ok (.iload_n 3, 1) := by decide +kernel
theorem dJ5_append_c97b9_26 : decode cJ5_append_c97b9 26 = .ok (.aload_n 0, 1) := by decide +kernel
theorem dJ5_append_c97b9_27 : decode cJ5_append_c97b9 27 = .ok (.getfield 15, 3) := by decide +kernel
theorem dJ5_append_c97b9_30 : decode cJ5_append_c97b9 30 = .ok (.invokestatic 248, 3) := by decide +kernel
theorem dJ5_append_c97b9_33 : decode cJ5_append_c97b9 33 = .ok (.pop, 1) := by decide +kernel
theorem dJ5_append_c97b9_34 : decode cJ5_append_c97b9 34 = .ok (.goto 14, 3) := by decide +kernel
theorem dJ5_append_c97b9_48 : decode cJ5_append_c97b9 48 = .ok (.aload_n 0, 1) := by decide +kernel
theorem dJ5_append_c97b9_49 : decode cJ5_append_c97b9 49 = .ok (.iload_n 3, 1) := by decide +kernel
theorem dJ5_append_c97b9_50 : decode cJ5_append_c97b9 50 = .ok (.putfield 79, 3) := by decide +kernel
theorem dJ5_append_c97b9_53 : decode cJ5_append_c97b9 53 = .ok (.aload_n 0, 1) := by decide +kernel
theorem dJ5_append_c97b9_54 : decode cJ5_append_c97b9 54 = .ok (.areturn, 1) := by decide +kernel
set_option maxRecDepth 100000 in
set_option maxHeartbeats 400000 in
theorem E_J5_append_c97b9 (w q : Nat) (L : List Int) (a n : Nat) (v : Int) : ME yJ5_append_c97b9 cJ5_append_c97b9 4 (some (.object "java/lang/AbstractStringBuilder")) 4 90 1 34 (fun DA => [.ref q, .int (I v)]) (fun DA mm R => BD w mm q L a n ∧ ((0 ≤ v ∧ v < 1000) ∧ L.length + (dg v).length ≤ 34) ∧ ∀ m' a' n', BD w m' q (L ++ dg v) a' n' → FB w mm m' → R (.ok (some (.ref q))) m') := by
  refine ME_of (env0 := fun DA => [(0, .ref q), (1, .int (I v))]) (by decide) (fun DA => by exact Nat.le_of_ble_eq_true rfl) (fun DA => by rfl) (fun k mm R X C hR hN hr hname hP => ?_)
  have X : CX k cJ5_append_c97b9 RJ5 := X
  have hT := TH_ofE C
  have htr := C.2.2.2.1
  have ho : HO k := C.2.2.2.2
  obtain ⟨hB, ⟨hv, hl⟩, h⟩ := hP
  obtain ⟨⟨b1, b2, b3, b4, b5⟩, b6, b7, b8, b9, b10, ⟨b11, b12⟩, b13, b14, b15⟩ := id hB
  refine t_al 0 X dJ5_append_c97b9_0 rfl rfl ?_
  refine t_sbi (j := 3) X (by decide) (qW_at 674 (by decide +kernel) rfl) rfl dJ5_append_c97b9_1 b6 b9 ?_
  refine g_istore_n (env' := [(2, .int (I (L.length : Int))), (0, .ref q), (1, .int (I v))]) X dJ5_append_c97b9_4 rfl (by rw [hN]; decide) rfl ?_
  refine g_iload_n 0 X dJ5_append_c97b9_5 rfl rfl ?_
  refine g_iload_n 2 X dJ5_append_c97b9_6 rfl rfl ?_
  refine e_callS (st := [.int (I (L.length : Int))]) (rok fun v1 m1 => v1 = some (.int (I (((dg v).length : Nat) : Int))) ∧ mm = m1) X hT htr (E_J6_stringSize_0f7a4 v) lk_J6_stringSize_0f7a4 st_J6_stringSize_0f7a4 (qW_at 837 (by decide +kernel) rfl) rfl (by rw [hR]; exact ⟨Nat.le_of_ble_eq_true rfl, Nat.le_of_ble_eq_true rfl⟩) (by exact Nat.le_of_ble_eq_true rfl) (by rw [hR]; exact ⟨Nat.le_of_ble_eq_true rfl, Nat.le_of_ble_eq_true rfl⟩) dJ5_append_c97b9_7 (by rfl) (⟨hv, _, rfl, rfl, rfl⟩) (fun _ _ h => rok_x h) (fun v1 m1 h => ?_)
  obtain ⟨_, hv0, rfl, rfl⟩ := h
  cases hv0
  have hd := dg_len v
  refine g_iadd X dJ5_append_c97b9_10 ?_
  rw [I_add]
  refine g_istore_n (env' := [(3, .int (I ((L.length : Int) + (((dg v).length : Nat) : Int)))), (2, .int (I (L.length : Int))), (0, .ref q), (1, .int (I v))]) X dJ5_append_c97b9_11 rfl (by rw [hN]; decide) rfl ?_
  refine t_al 2 X dJ5_append_c97b9_12 rfl rfl ?_
  refine g_iload_n 0 X dJ5_append_c97b9_13 rfl rfl ?_
  refine e_callP (st := []) (rok fun v1 m1 => v1 = none ∧ ∃ a2 n2, BD w m1 q L a2 n2 ∧ (L.length : Int) + (((dg v).length : Nat) : Int) ≤ n2 ∧ FB w mm m1) X hT htr (E_J5_ensureCapacityInternal_d00df w q L a n ((L.length : Int) + (((dg v).length : Nat) : Int))) lk_J5_ensureCapacityInternal_d00df im_J5_ensureCapacityInternal_d00df pr_J5_ensureCapacityInternal_d00df sm_J5_ensureCapacityInternal_d00df (qW_at 701 (by decide +kernel) rfl) b6 rfl rfl (by rw [hR]; exact ⟨Nat.le_of_ble_eq_true rfl, Nat.le_of_ble_eq_true rfl⟩) (by exact Nat.le_of_ble_eq_true rfl) (by rw [hR]; exact ⟨Nat.le_of_ble_eq_true rfl, Nat.le_of_ble_eq_true rfl⟩) dJ5_append_c97b9_14 (by rfl) (⟨hB, ⟨by omega, by omega⟩, fun m' a' n' g1 g2 g3 => ⟨_, rfl, rfl, a', n', g1, g2, g3⟩⟩) (fun _ _ h => rok_x h) (fun v1 m1a h => ?_)
  obtain ⟨_, hv0, rfl, a2, n2, hB2, hn2, hF2⟩ := h
  cases hv0
  clear b1 b2 b3 b4 b5 b7 b8 b9 b10 b11 b12 b13 b14 b15
  obtain ⟨⟨b1, b2, b3, b4, b5⟩, b6, b7, b8, b9, b10, ⟨b11, b12⟩, b13, b14, b15⟩ := id hB2
  have hg := hB2.int hv (by omega)
  refine t_al 2 X dJ5_append_c97b9_17 rfl rfl ?_
  refine e_callV (st := []) (rok fun v1 m1 => v1 = some (.int (I 1)) ∧ m1a = m1) (C := RJ4) X hT htr (E_J5_isLatin1_aae02 q) lk_J5_isLatin1_aae02 im_J5_isLatin1_aae02 (qW_at 737 (by decide +kernel) rfl) (qW_at 734 (by decide +kernel) rfl) (fun H hH => t_recv X rfl b6 hH) rfl rfl (by rw [hR]; exact ⟨Nat.le_of_ble_eq_true rfl, Nat.le_of_ble_eq_true rfl⟩) (by exact Nat.le_of_ble_eq_true rfl) (by rw [hR]; exact ⟨Nat.le_of_ble_eq_true rfl, Nat.le_of_ble_eq_true rfl⟩) dJ5_append_c97b9_18 (by rfl) (⟨b6, b8, _, rfl, rfl, rfl⟩) (fun _ _ h => rok_x h) (fun v1 m1 h => ?_)
  obtain ⟨_, hv0, rfl, rfl⟩ := h
  cases hv0
  refine t_eqF 37 X dJ5_append_c97b9_21 (by decide) (by decide) ?_
  refine g_iload_n 3 X dJ5_append_c97b9_24 rfl rfl ?_
  refine g_iload_n 0 X dJ5_append_c97b9_25 rfl rfl ?_
  rw [show (L.length : Int) + (((dg v).length : Nat) : Int) = ((L.length + (dg v).length : Nat) : Int) from by omega]
  refine t_al 2 X dJ5_append_c97b9_26 rfl rfl ?_
  refine t_sbr X (qW_at 672 (by decide +kernel) rfl) dJ5_append_c97b9_27 b6 b7 ?_
  refine e_callS (st := []) (rok fun v1 m1 => (∃ u, v1 = some (.int u)) ∧ m1 = dgm m1a a2 (L.length + (dg v).length) v) X hT htr (E_J6_getChars_ba4f3 v (L.length + (dg v).length) a2 n2) lk_J6_getChars_ba4f3 st_J6_getChars_ba4f3 (qW_at 840 (by decide +kernel) rfl) rfl (by rw [hR]; exact ⟨Nat.le_of_ble_eq_true rfl, Nat.le_of_ble_eq_true rfl⟩) (by exact Nat.le_of_ble_eq_true rfl) (by rw [hR]; exact ⟨Nat.le_of_ble_eq_true rfl, Nat.le_of_ble_eq_true rfl⟩) dJ5_append_c97b9_30 (by rfl) (⟨hv, b10, ⟨by omega, by omega, by omega⟩, fun u => ⟨_, rfl, ⟨u, rfl⟩, rfl⟩⟩) (fun _ _ h => rok_x h) (fun v1 m1 h => ?_)
  obtain ⟨_, hv0, ⟨u, rfl⟩, rfl⟩ := h
  cases hv0
  refine g_pop X dJ5_append_c97b9_33 rfl ?_
  refine g_goto (tgt := 48) X dJ5_append_c97b9_34 (by decide) ?_
  refine t_al 2 X dJ5_append_c97b9_48 rfl rfl ?_
  refine g_iload_n 0 X dJ5_append_c97b9_49 rfl rfl ?_
  rw [show ((L.length + (dg v).length : Nat) : Int) = (((L ++ dg v).length : Nat) : Int) from by rw [List.length_append]]
  refine t_sbpc X (qW_at 674 (by decide +kernel) rfl) dJ5_append_c97b9_50 ((dgm_k.2.1 q).trans b6) ?_
  refine t_al 2 X dJ5_append_c97b9_53 rfl rfl ?_
  exact e_aret X C hr (Or.inl ⟨_, rfl⟩) dJ5_append_c97b9_54 (by rw [hR]; exact Nat.le_of_ble_eq_true rfl) (by rw [hR]; exact Nat.le_of_ble_eq_true rfl) (h _ a2 n2 hg.1 (hF2.trans hg.2))
abbrev cJ4_append_bf812 : ByteArray := prog_22_method_15_code
def yJ4_append_bf812 : MethodName := ⟨RJ4, "append", "(I)Ljava/lang/StringBuilder;"⟩
theorem lk_J4_append_bf812 : LK yJ4_append_bf812 cJ4_append_bf812 2 (some (.object "java/lang/StringBuilder")) 1 := ⟨(qW_at 833 (by decide +kernel) rfl), (qW_at 48 (by decide +kernel) rfl), by decide, by decide, by decide +kernel⟩
theorem im_J4_append_bf812 : Cond.instanceMethod yJ4_append_bf812 ∈ qW := (qW_at 831 (by decide +kernel) rfl)
theorem dJ4_append_bf812_0 : decode cJ4_append_bf812 0 = .ok (.aload_n 0, 1) := by decide +kernel
theorem dJ4_append_bf812_1 : decode cJ4_append_bf812 1 = .ok (.iload_n 1, 1) := by decide +kernel
theorem dJ4_append_bf812_2 : decode cJ4_append_bf812 2 = .ok (.invokespecial 53, 3) := by decide +kernel
theorem dJ4_append_bf812_5 : decode cJ4_append_bf812 5 = .ok (.pop, 1) := by decide +kernel
theorem dJ4_append_bf812_6 : decode cJ4_append_bf812 6 = .ok (.aload_n 0, 1) := by decide +kernel
theorem dJ4_append_bf812_7 : decode cJ4_append_bf812 7 = .ok (.areturn, 1) := by decide +kernel
set_option maxRecDepth 100000 in
set_option maxHeartbeats 400000 in
theorem E_J4_append_bf812 (w q : Nat) (L : List Int) (a n : Nat) (v : Int) : ME yJ4_append_bf812 cJ4_append_bf812 2 (some (.object "java/lang/StringBuilder")) 5 113 1 34 (fun DA => [.ref q, .int (I v)]) (fun DA mm R => BD w mm q L a n ∧ ((0 ≤ v ∧ v < 1000) ∧ L.length + (dg v).length ≤ 34) ∧ ∀ m' a' n', BD w m' q (L ++ dg v) a' n' → FB w mm m' → R (.ok (some (.ref q))) m') := by
  refine ME_of (env0 := fun DA => [(0, .ref q), (1, .int (I v))]) (by decide) (fun DA => by exact Nat.le_of_ble_eq_true rfl) (fun DA => by rfl) (fun k mm R X C hR hN hr hname hP => ?_)
  have X : CX k cJ4_append_bf812 RJ4 := X
  have hT := TH_ofE C
  have htr := C.2.2.2.1
  have ho : HO k := C.2.2.2.2
  obtain ⟨hB, hc, h⟩ := hP
  refine t_al 0 X dJ4_append_bf812_0 rfl rfl ?_
  refine g_iload_n 1 X dJ4_append_bf812_1 rfl rfl ?_
  refine e_callU (st := []) (rok fun v1 m1 => v1 = some (.ref q) ∧ ∃ a2 n2, BD w m1 q (L ++ dg v) a2 n2 ∧ FB w mm m1) X hT htr (E_J5_append_c97b9 w q L a n v) lk_J5_append_c97b9 im_J5_append_c97b9 sm_J5_append_c97b9 (qW_at 683 (by decide +kernel) rfl) (by decide) (qW_at 834 (by decide +kernel) rfl) hB.2.1 rfl rfl (by rw [hR]; exact ⟨Nat.le_of_ble_eq_true rfl, Nat.le_of_ble_eq_true rfl⟩) (by exact Nat.le_of_ble_eq_true rfl) (by rw [hR]; exact ⟨Nat.le_of_ble_eq_true rfl, Nat.le_of_ble_eq_true rfl⟩) dJ4_append_bf812_2 (by rfl) (⟨hB, hc, fun m' a' n' g1 g2 => ⟨_, rfl, rfl, a', n', g1, g2⟩⟩) (fun _ _ h => rok_x h) (fun v1 m1 h => ?_)
  obtain ⟨_, hv0, rfl, a2, n2, hB2, hF2⟩ := h
  cases hv0
  refine g_pop X dJ4_append_bf812_5 rfl ?_
  refine t_al 0 X dJ4_append_bf812_6 rfl rfl ?_
  exact e_aret X C hr (Or.inl ⟨_, rfl⟩) dJ4_append_bf812_7 (by rw [hR]; exact Nat.le_of_ble_eq_true rfl) (by rw [hR]; exact Nat.le_of_ble_eq_true rfl) (h _ a2 n2 hB2 hF2)
