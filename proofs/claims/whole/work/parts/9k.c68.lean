/-! the law's own methods -/
theorem CR.lt62 {sv : Nat} {G : GM} {S : MS} {m : QM} (h : CR sv G S m) (_ : qty m (sv + 62) = (3, 0, 1)) : sv + 62 < qtop m := by
  have := h.cf.top; omega
theorem dL_setOffset_0 : decode cL_setOffset 0 = .ok (.aload_n 3, 1) := by decide +kernel
theorem dL_setOffset_1 : decode cL_setOffset 1 = .ok (.iconst 0, 1) := by decide +kernel
theorem dL_setOffset_2 : decode cL_setOffset 2 = .ok (.aload_n 0, 1) := by decide +kernel
theorem dL_setOffset_3 : decode cL_setOffset 3 = .ok (.iload_n 1, 1) := by decide +kernel
theorem dL_setOffset_4 : decode cL_setOffset 4 = .ok (.iload_n 2, 1) := by decide +kernel
theorem dL_setOffset_5 : decode cL_setOffset 5 = .ok (.invokevirtual 7, 3) := by decide +kernel
theorem dL_setOffset_8 : decode cL_setOffset 8 = .ok (.i2l, 1) := by decide +kernel
theorem dL_setOffset_9 : decode cL_setOffset 9 = .ok (.lastore, 1) := by decide +kernel
theorem dL_setOffset_10 : decode cL_setOffset 10 = .ok (.goto 11, 3) := by decide +kernel
theorem dL_setOffset_13 : decode cL_setOffset 13 = .ok (.astore 4, 2) := by decide +kernel
theorem dL_setOffset_15 : decode cL_setOffset 15 = .ok (.iconst 1, 1) := by decide +kernel
theorem dL_setOffset_16 : decode cL_setOffset 16 = .ok (.ireturn, 1) := by decide +kernel
theorem dL_setOffset_17 : decode cL_setOffset 17 = .ok (.astore 4, 2) := by decide +kernel
theorem dL_setOffset_19 : decode cL_setOffset 19 = .ok (.iconst 2, 1) := by decide +kernel
theorem dL_setOffset_20 : decode cL_setOffset 20 = .ok (.ireturn, 1) := by decide +kernel
theorem dL_setOffset_21 : decode cL_setOffset 21 = .ok (.iconst 0, 1) := by decide +kernel
theorem dL_setOffset_22 : decode cL_setOffset 22 = .ok (.ireturn, 1) := by decide +kernel
theorem lkh_setOffset : LKH yL_setOffset cL_setOffset 5 (some .int) [(0, 10, 13, 13), (0, 10, 17, 15)] 4 := ⟨(qW_at 194 (by decide +kernel) rfl), (qW_at 74 (by decide +kernel) rfl), by decide, by decide, by decide +kernel⟩
theorem stl_setOffset : Cond.static yL_setOffset ∈ qW := (qW_at 193 (by decide +kernel) rfl)
set_option maxRecDepth 100000 in
set_option maxHeartbeats 1600000 in
theorem E_L_setOffset (sv : Nat) (p0 p1 : Int32) : MEH yL_setOffset cL_setOffset 5 (some .int) [(0, 10, 13, 13), (0, 10, 17, 15)] 9 147 2 12 (fun DA => [.ref sv, .int p0, .int p1, .ref (sv + 62)]) (fun DA mm R => qty mm sv = (1, 7, 0) ∧ qty mm (sv + 62) = (3, 0, 1) ∧ ∃ r m1, F_X6_setOffset sv p0 p1 mm = some (r, m1) ∧ KP sv mm m1 ∧ (∀ v, r = .ok v → True ∧ R (.ok (some (.int (I 0)))) (sal m1 (sv + 62) 0 v.toInt64)) ∧ (∀ e0, r = .error e0 → ∃ cd, mpB e0 = some cd ∧ ∀ n, qtop m1 ≤ n → R (.ok (some (.int (I cd)))) (stop m1 n))) := by
  refine MEH_of (env0 := fun DA => [(0, .ref sv), (1, .int p0), (2, .int p1), (3, .ref (sv + 62))]) (by decide) (fun DA => by exact Nat.le_of_ble_eq_true rfl) (fun DA => by rfl) (fun k mm R X C hR hN hr hname hP => ?_)
  have X : CX k cL_setOffset RL := X
  have htr := C.2.2.2.1
  obtain ⟨h1, h62, r, m1, hx, hk, hok, her⟩ := hP
  let T9 : Nat → QM → Prop := fun e m' => ∃ cd, mpB e = some cd ∧ ∀ n, qtop m' ≤ n → R (.ok (some (.int (I cd)))) (stop m' n)
  have hTp : THp k 5 T9 := by
    intro e mm9 H locs ls rest ce q9 a9 b9 hT9 z9 hn9 hl9 hls9 hq9 hv9 hc9 ha9 hb9
    obtain ⟨cd, hcd, hR9⟩ := hT9
    unfold mpB at hcd
    by_cases e1 : e = 1
    · subst e1
      have hcd : some (1 : Int) = some cd := hcd
      cases hcd
      refine t_catch (e := 1) (hh := [(0, 10, 13, 13), (0, 10, 17, 15)]) (pre := []) (suf := [(0, 10, 17, 15)]) X C.2.1 rfl (by decide) (by decide) (by decide) (qW_at 195 (by decide +kernel) rfl) (qN_at 207 (by decide +kernel) rfl) (fun z hz => absurd hz List.not_mem_nil) (fun q n a b hn ha hb => ?_) H locs ls rest ce q9 a9 b9 z9 hn9 hl9 hls9 hq9 hv9 hc9 ha9 hb9
      refine g_astore (r := some q) (env' := [(4, .ref q)]) X dL_setOffset_13 (by rw [hN]; decide) rfl ?_
      refine g_iconst (v := I 1) X dL_setOffset_15 rfl ?_
      exact h_iret X C hr rfl dL_setOffset_16 ha hb (hR9 n hn)
    · rw [if_neg e1] at hcd
      by_cases e2 : e = 2
      · subst e2
        have hcd : some (2 : Int) = some cd := hcd
        cases hcd
        refine t_catch (e := 2) (hh := [(0, 10, 13, 13), (0, 10, 17, 15)]) (pre := [(0, 10, 13, 13)]) (suf := []) X C.2.1 rfl (by decide) (by decide) (by decide) (qW_at 196 (by decide +kernel) rfl) (qN_at 276 (by decide +kernel) rfl) (fun z hz => by
          simp only [List.mem_cons, List.mem_nil_iff, or_false] at hz
          rcases hz with rfl
          · exact ⟨by decide, 1, by decide, by decide, (qW_at 195 (by decide +kernel) rfl)⟩) (fun q n a b hn ha hb => ?_) H locs ls rest ce q9 a9 b9 z9 hn9 hl9 hls9 hq9 hv9 hc9 ha9 hb9
        refine g_astore (r := some q) (env' := [(4, .ref q)]) X dL_setOffset_17 (by rw [hN]; decide) rfl ?_
        refine g_iconst (v := I 2) X dL_setOffset_19 rfl ?_
        exact h_iret X C hr rfl dL_setOffset_20 ha hb (hR9 n hn)
      · rw [if_neg e2] at hcd
        exact absurd hcd (by simp)
  have h62' := hk.ty62 h62
  refine t_al 3 X dL_setOffset_0 rfl rfl ?_
  refine g_iconst (v := I 0) X dL_setOffset_1 rfl ?_
  refine t_al 0 X dL_setOffset_2 rfl rfl ?_
  refine g_iload_n 1 X dL_setOffset_3 rfl rfl ?_
  refine g_iload_n 2 X dL_setOffset_4 rfl rfl ?_
  refine p_callV (st := [.int (I 0), .ref (sv + 62)]) (q := sv) (av := [.int p0, .int p1]) (T := T9) X hTp htr rfl h1 (M_X6_setOffset sv p0 p1) lk_X6_setOffset im_X6_setOffset se_X6_setOffset (qW_at 197 (by decide +kernel) rfl) rfl (by rw [hR]; exact ⟨Nat.le_of_ble_eq_true rfl, Nat.le_of_ble_eq_true rfl⟩) (by exact Nat.le_of_ble_eq_true rfl) (by rw [hR]; exact ⟨Nat.le_of_ble_eq_true rfl, Nat.le_of_ble_eq_true rfl⟩) dL_setOffset_5 (by rfl) ?_
  unfold qwp
  rw [hx]
  cases r with
  | error e => exact her e rfl
  | ok v =>
    show GG k _ (.int v :: .int (I 0) :: .ref (sv + 62) :: []) m1 _ _ _
    refine g_i2l X dL_setOffset_8 ?_
    refine g_last (q := sv + 62) (n := 1) X h62' (by intro q; rcases q with q | q <;> exact absurd q (by decide)) dL_setOffset_9 ?_
    rw [show (I 0).toNatClampNeg = 0 from by decide]
    refine g_goto (tgt := 21) X dL_setOffset_10 (by decide) ?_
    refine g_iconst (v := I 0) X dL_setOffset_21 rfl ?_
    exact h_iret X C hr rfl dL_setOffset_22 (by rw [hR]; exact Nat.le_of_ble_eq_true rfl) (by rw [hR]; exact Nat.le_of_ble_eq_true rfl) ((hok v rfl).2)
theorem dL_setSummer_0 : decode cL_setSummer 0 = .ok (.aload 4, 2) := by decide +kernel
theorem dL_setSummer_2 : decode cL_setSummer 2 = .ok (.iconst 0, 1) := by decide +kernel
theorem dL_setSummer_3 : decode cL_setSummer 3 = .ok (.aload_n 0, 1) := by decide +kernel
theorem dL_setSummer_4 : decode cL_setSummer 4 = .ok (.iload_n 1, 1) := by decide +kernel
theorem dL_setSummer_5 : decode cL_setSummer 5 = .ok (.iload_n 2, 1) := by decide +kernel
theorem dL_setSummer_6 : decode cL_setSummer 6 = .ok (.iload_n 3, 1) := by decide +kernel
theorem dL_setSummer_7 : decode cL_setSummer 7 = .ok (.invokevirtual 17, 3) := by decide +kernel
theorem dL_setSummer_10 : decode cL_setSummer 10 = .ok (.i2l, 1) := by decide +kernel
theorem dL_setSummer_11 : decode cL_setSummer 11 = .ok (.lastore, 1) := by decide +kernel
theorem dL_setSummer_12 : decode cL_setSummer 12 = .ok (.goto 11, 3) := by decide +kernel
theorem dL_setSummer_15 : decode cL_setSummer 15 = .ok (.astore 5, 2) := by decide +kernel
theorem dL_setSummer_17 : decode cL_setSummer 17 = .ok (.iconst 1, 1) := by decide +kernel
theorem dL_setSummer_18 : decode cL_setSummer 18 = .ok (.ireturn, 1) := by decide +kernel
theorem dL_setSummer_19 : decode cL_setSummer 19 = .ok (.astore 5, 2) := by decide +kernel
theorem dL_setSummer_21 : decode cL_setSummer 21 = .ok (.iconst 2, 1) := by decide +kernel
theorem dL_setSummer_22 : decode cL_setSummer 22 = .ok (.ireturn, 1) := by decide +kernel
theorem dL_setSummer_23 : decode cL_setSummer 23 = .ok (.iconst 0, 1) := by decide +kernel
theorem dL_setSummer_24 : decode cL_setSummer 24 = .ok (.ireturn, 1) := by decide +kernel
theorem lkh_setSummer : LKH yL_setSummer cL_setSummer 6 (some .int) [(0, 12, 15, 13), (0, 12, 19, 15)] 5 := ⟨(qW_at 291 (by decide +kernel) rfl), (qW_at 74 (by decide +kernel) rfl), by decide, by decide, by decide +kernel⟩
theorem stl_setSummer : Cond.static yL_setSummer ∈ qW := (qW_at 290 (by decide +kernel) rfl)
set_option maxRecDepth 100000 in
set_option maxHeartbeats 1600000 in
theorem E_L_setSummer (sv : Nat) (p0 p1 p2 : Int32) : MEH yL_setSummer cL_setSummer 6 (some .int) [(0, 12, 15, 13), (0, 12, 19, 15)] 9 148 3 18 (fun DA => [.ref sv, .int p0, .int p1, .int p2, .ref (sv + 62)]) (fun DA mm R => qty mm sv = (1, 7, 0) ∧ qty mm (sv + 62) = (3, 0, 1) ∧ ∃ r m1, F_X6_setSummer sv p0 p1 p2 mm = some (r, m1) ∧ KP sv mm m1 ∧ (∀ v, r = .ok v → True ∧ R (.ok (some (.int (I 0)))) (sal m1 (sv + 62) 0 v.toInt64)) ∧ (∀ e0, r = .error e0 → ∃ cd, mpB e0 = some cd ∧ ∀ n, qtop m1 ≤ n → R (.ok (some (.int (I cd)))) (stop m1 n))) := by
  refine MEH_of (env0 := fun DA => [(0, .ref sv), (1, .int p0), (2, .int p1), (3, .int p2), (4, .ref (sv + 62))]) (by decide) (fun DA => by exact Nat.le_of_ble_eq_true rfl) (fun DA => by rfl) (fun k mm R X C hR hN hr hname hP => ?_)
  have X : CX k cL_setSummer RL := X
  have htr := C.2.2.2.1
  obtain ⟨h1, h62, r, m1, hx, hk, hok, her⟩ := hP
  let T9 : Nat → QM → Prop := fun e m' => ∃ cd, mpB e = some cd ∧ ∀ n, qtop m' ≤ n → R (.ok (some (.int (I cd)))) (stop m' n)
  have hTp : THp k 7 T9 := by
    intro e mm9 H locs ls rest ce q9 a9 b9 hT9 z9 hn9 hl9 hls9 hq9 hv9 hc9 ha9 hb9
    obtain ⟨cd, hcd, hR9⟩ := hT9
    unfold mpB at hcd
    by_cases e1 : e = 1
    · subst e1
      have hcd : some (1 : Int) = some cd := hcd
      cases hcd
      refine t_catch (e := 1) (hh := [(0, 12, 15, 13), (0, 12, 19, 15)]) (pre := []) (suf := [(0, 12, 19, 15)]) X C.2.1 rfl (by decide) (by decide) (by decide) (qW_at 195 (by decide +kernel) rfl) (qN_at 207 (by decide +kernel) rfl) (fun z hz => absurd hz List.not_mem_nil) (fun q n a b hn ha hb => ?_) H locs ls rest ce q9 a9 b9 z9 hn9 hl9 hls9 hq9 hv9 hc9 ha9 hb9
      refine g_astore (r := some q) (env' := [(5, .ref q)]) X dL_setSummer_15 (by rw [hN]; decide) rfl ?_
      refine g_iconst (v := I 1) X dL_setSummer_17 rfl ?_
      exact h_iret X C hr rfl dL_setSummer_18 ha hb (hR9 n hn)
    · rw [if_neg e1] at hcd
      by_cases e2 : e = 2
      · subst e2
        have hcd : some (2 : Int) = some cd := hcd
        cases hcd
        refine t_catch (e := 2) (hh := [(0, 12, 15, 13), (0, 12, 19, 15)]) (pre := [(0, 12, 15, 13)]) (suf := []) X C.2.1 rfl (by decide) (by decide) (by decide) (qW_at 196 (by decide +kernel) rfl) (qN_at 276 (by decide +kernel) rfl) (fun z hz => by
          simp only [List.mem_cons, List.mem_nil_iff, or_false] at hz
          rcases hz with rfl
          · exact ⟨by decide, 1, by decide, by decide, (qW_at 195 (by decide +kernel) rfl)⟩) (fun q n a b hn ha hb => ?_) H locs ls rest ce q9 a9 b9 z9 hn9 hl9 hls9 hq9 hv9 hc9 ha9 hb9
        refine g_astore (r := some q) (env' := [(5, .ref q)]) X dL_setSummer_19 (by rw [hN]; decide) rfl ?_
        refine g_iconst (v := I 2) X dL_setSummer_21 rfl ?_
        exact h_iret X C hr rfl dL_setSummer_22 ha hb (hR9 n hn)
      · rw [if_neg e2] at hcd
        exact absurd hcd (by simp)
  have h62' := hk.ty62 h62
  refine g_aload (r := some (sv + 62)) 4 X dL_setSummer_0 rfl ?_
  refine g_iconst (v := I 0) X dL_setSummer_2 rfl ?_
  refine t_al 0 X dL_setSummer_3 rfl rfl ?_
  refine g_iload_n 1 X dL_setSummer_4 rfl rfl ?_
  refine g_iload_n 2 X dL_setSummer_5 rfl rfl ?_
  refine g_iload_n 3 X dL_setSummer_6 rfl rfl ?_
  refine p_callV (st := [.int (I 0), .ref (sv + 62)]) (q := sv) (av := [.int p0, .int p1, .int p2]) (T := T9) X hTp htr rfl h1 (M_X6_setSummer sv p0 p1 p2) lk_X6_setSummer im_X6_setSummer se_X6_setSummer (qW_at 292 (by decide +kernel) rfl) rfl (by rw [hR]; exact ⟨Nat.le_of_ble_eq_true rfl, Nat.le_of_ble_eq_true rfl⟩) (by exact Nat.le_of_ble_eq_true rfl) (by rw [hR]; exact ⟨Nat.le_of_ble_eq_true rfl, Nat.le_of_ble_eq_true rfl⟩) dL_setSummer_7 (by rfl) ?_
  unfold qwp
  rw [hx]
  cases r with
  | error e => exact her e rfl
  | ok v =>
    show GG k _ (.int v :: .int (I 0) :: .ref (sv + 62) :: []) m1 _ _ _
    refine g_i2l X dL_setSummer_10 ?_
    refine g_last (q := sv + 62) (n := 1) X h62' (by intro q; rcases q with q | q <;> exact absurd q (by decide)) dL_setSummer_11 ?_
    rw [show (I 0).toNatClampNeg = 0 from by decide]
    refine g_goto (tgt := 23) X dL_setSummer_12 (by decide) ?_
    refine g_iconst (v := I 0) X dL_setSummer_23 rfl ?_
    exact h_iret X C hr rfl dL_setSummer_24 (by rw [hR]; exact Nat.le_of_ble_eq_true rfl) (by rw [hR]; exact Nat.le_of_ble_eq_true rfl) ((hok v rfl).2)
theorem dL_common_0 : decode cL_common 0 = .ok (.aload_n 3, 1) := by decide +kernel
theorem dL_common_1 : decode cL_common 1 = .ok (.iconst 0, 1) := by decide +kernel
theorem dL_common_2 : decode cL_common 2 = .ok (.aload_n 0, 1) := by decide +kernel
theorem dL_common_3 : decode cL_common 3 = .ok (.iload_n 1, 1) := by decide +kernel
theorem dL_common_4 : decode cL_common 4 = .ok (.iload_n 2, 1) := by decide +kernel
theorem dL_common_5 : decode cL_common 5 = .ok (.invokevirtual 21, 3) := by decide +kernel
theorem dL_common_8 : decode cL_common 8 = .ok (.i2l, 1) := by decide +kernel
theorem dL_common_9 : decode cL_common 9 = .ok (.lastore, 1) := by decide +kernel
theorem dL_common_10 : decode cL_common 10 = .ok (.goto 11, 3) := by decide +kernel
theorem dL_common_13 : decode cL_common 13 = .ok (.astore 4, 2) := by decide +kernel
theorem dL_common_15 : decode cL_common 15 = .ok (.iconst 1, 1) := by decide +kernel
theorem dL_common_16 : decode cL_common 16 = .ok (.ireturn, 1) := by decide +kernel
theorem dL_common_17 : decode cL_common 17 = .ok (.astore 4, 2) := by decide +kernel
theorem dL_common_19 : decode cL_common 19 = .ok (.iconst 2, 1) := by decide +kernel
theorem dL_common_20 : decode cL_common 20 = .ok (.ireturn, 1) := by decide +kernel
theorem dL_common_21 : decode cL_common 21 = .ok (.iconst 0, 1) := by decide +kernel
theorem dL_common_22 : decode cL_common 22 = .ok (.ireturn, 1) := by decide +kernel
theorem lkh_common : LKH yL_common cL_common 5 (some .int) [(0, 10, 13, 13), (0, 10, 17, 15)] 4 := ⟨(qW_at 304 (by decide +kernel) rfl), (qW_at 74 (by decide +kernel) rfl), by decide, by decide, by decide +kernel⟩
theorem stl_common : Cond.static yL_common ∈ qW := (qW_at 303 (by decide +kernel) rfl)
set_option maxRecDepth 100000 in
set_option maxHeartbeats 1600000 in
theorem E_L_common (sv : Nat) (p0 p1 : Int32) : MEH yL_common cL_common 5 (some .int) [(0, 10, 13, 13), (0, 10, 17, 15)] 9 146 2 12 (fun DA => [.ref sv, .int p0, .int p1, .ref (sv + 62)]) (fun DA mm R => qty mm sv = (1, 7, 0) ∧ qty mm (sv + 62) = (3, 0, 1) ∧ ∃ r m1, F_X6_common sv p0 p1 mm = some (r, m1) ∧ KP sv mm m1 ∧ (∀ v, r = .ok v → True ∧ R (.ok (some (.int (I 0)))) (sal m1 (sv + 62) 0 v.toInt64)) ∧ (∀ e0, r = .error e0 → ∃ cd, mpB e0 = some cd ∧ ∀ n, qtop m1 ≤ n → R (.ok (some (.int (I cd)))) (stop m1 n))) := by
  refine MEH_of (env0 := fun DA => [(0, .ref sv), (1, .int p0), (2, .int p1), (3, .ref (sv + 62))]) (by decide) (fun DA => by exact Nat.le_of_ble_eq_true rfl) (fun DA => by rfl) (fun k mm R X C hR hN hr hname hP => ?_)
  have X : CX k cL_common RL := X
  have htr := C.2.2.2.1
  obtain ⟨h1, h62, r, m1, hx, hk, hok, her⟩ := hP
  let T9 : Nat → QM → Prop := fun e m' => ∃ cd, mpB e = some cd ∧ ∀ n, qtop m' ≤ n → R (.ok (some (.int (I cd)))) (stop m' n)
  have hTp : THp k 5 T9 := by
    intro e mm9 H locs ls rest ce q9 a9 b9 hT9 z9 hn9 hl9 hls9 hq9 hv9 hc9 ha9 hb9
    obtain ⟨cd, hcd, hR9⟩ := hT9
    unfold mpB at hcd
    by_cases e1 : e = 1
    · subst e1
      have hcd : some (1 : Int) = some cd := hcd
      cases hcd
      refine t_catch (e := 1) (hh := [(0, 10, 13, 13), (0, 10, 17, 15)]) (pre := []) (suf := [(0, 10, 17, 15)]) X C.2.1 rfl (by decide) (by decide) (by decide) (qW_at 195 (by decide +kernel) rfl) (qN_at 207 (by decide +kernel) rfl) (fun z hz => absurd hz List.not_mem_nil) (fun q n a b hn ha hb => ?_) H locs ls rest ce q9 a9 b9 z9 hn9 hl9 hls9 hq9 hv9 hc9 ha9 hb9
      refine g_astore (r := some q) (env' := [(4, .ref q)]) X dL_common_13 (by rw [hN]; decide) rfl ?_
      refine g_iconst (v := I 1) X dL_common_15 rfl ?_
      exact h_iret X C hr rfl dL_common_16 ha hb (hR9 n hn)
    · rw [if_neg e1] at hcd
      by_cases e2 : e = 2
      · subst e2
        have hcd : some (2 : Int) = some cd := hcd
        cases hcd
        refine t_catch (e := 2) (hh := [(0, 10, 13, 13), (0, 10, 17, 15)]) (pre := [(0, 10, 13, 13)]) (suf := []) X C.2.1 rfl (by decide) (by decide) (by decide) (qW_at 196 (by decide +kernel) rfl) (qN_at 276 (by decide +kernel) rfl) (fun z hz => by
          simp only [List.mem_cons, List.mem_nil_iff, or_false] at hz
          rcases hz with rfl
          · exact ⟨by decide, 1, by decide, by decide, (qW_at 195 (by decide +kernel) rfl)⟩) (fun q n a b hn ha hb => ?_) H locs ls rest ce q9 a9 b9 z9 hn9 hl9 hls9 hq9 hv9 hc9 ha9 hb9
        refine g_astore (r := some q) (env' := [(4, .ref q)]) X dL_common_17 (by rw [hN]; decide) rfl ?_
        refine g_iconst (v := I 2) X dL_common_19 rfl ?_
        exact h_iret X C hr rfl dL_common_20 ha hb (hR9 n hn)
      · rw [if_neg e2] at hcd
        exact absurd hcd (by simp)
  have h62' := hk.ty62 h62
  refine t_al 3 X dL_common_0 rfl rfl ?_
  refine g_iconst (v := I 0) X dL_common_1 rfl ?_
  refine t_al 0 X dL_common_2 rfl rfl ?_
  refine g_iload_n 1 X dL_common_3 rfl rfl ?_
  refine g_iload_n 2 X dL_common_4 rfl rfl ?_
  refine p_callV (st := [.int (I 0), .ref (sv + 62)]) (q := sv) (av := [.int p0, .int p1]) (T := T9) X hTp htr rfl h1 (M_X6_common sv p0 p1) lk_X6_common im_X6_common se_X6_common (qW_at 305 (by decide +kernel) rfl) rfl (by rw [hR]; exact ⟨Nat.le_of_ble_eq_true rfl, Nat.le_of_ble_eq_true rfl⟩) (by exact Nat.le_of_ble_eq_true rfl) (by rw [hR]; exact ⟨Nat.le_of_ble_eq_true rfl, Nat.le_of_ble_eq_true rfl⟩) dL_common_5 (by rfl) ?_
  unfold qwp
  rw [hx]
  cases r with
  | error e => exact her e rfl
  | ok v =>
    show GG k _ (.int v :: .int (I 0) :: .ref (sv + 62) :: []) m1 _ _ _
    refine g_i2l X dL_common_8 ?_
    refine g_last (q := sv + 62) (n := 1) X h62' (by intro q; rcases q with q | q <;> exact absurd q (by decide)) dL_common_9 ?_
    rw [show (I 0).toNatClampNeg = 0 from by decide]
    refine g_goto (tgt := 21) X dL_common_10 (by decide) ?_
    refine g_iconst (v := I 0) X dL_common_21 rfl ?_
    exact h_iret X C hr rfl dL_common_22 (by rw [hR]; exact Nat.le_of_ble_eq_true rfl) (by rw [hR]; exact Nat.le_of_ble_eq_true rfl) ((hok v rfl).2)
theorem dL_local_0 : decode cL_local 0 = .ok (.aload_n 3, 1) := by decide +kernel
theorem dL_local_1 : decode cL_local 1 = .ok (.iconst 0, 1) := by decide +kernel
theorem dL_local_2 : decode cL_local 2 = .ok (.aload_n 0, 1) := by decide +kernel
theorem dL_local_3 : decode cL_local 3 = .ok (.iload_n 1, 1) := by decide +kernel
theorem dL_local_4 : decode cL_local 4 = .ok (.iload_n 2, 1) := by decide +kernel
theorem dL_local_5 : decode cL_local 5 = .ok (.invokevirtual 24, 3) := by decide +kernel
theorem dL_local_8 : decode cL_local 8 = .ok (.i2l, 1) := by decide +kernel
theorem dL_local_9 : decode cL_local 9 = .ok (.lastore, 1) := by decide +kernel
theorem dL_local_10 : decode cL_local 10 = .ok (.goto 11, 3) := by decide +kernel
theorem dL_local_13 : decode cL_local 13 = .ok (.astore 4, 2) := by decide +kernel
theorem dL_local_15 : decode cL_local 15 = .ok (.iconst 1, 1) := by decide +kernel
theorem dL_local_16 : decode cL_local 16 = .ok (.ireturn, 1) := by decide +kernel
theorem dL_local_17 : decode cL_local 17 = .ok (.astore 4, 2) := by decide +kernel
theorem dL_local_19 : decode cL_local 19 = .ok (.iconst 2, 1) := by decide +kernel
theorem dL_local_20 : decode cL_local 20 = .ok (.ireturn, 1) := by decide +kernel
theorem dL_local_21 : decode cL_local 21 = .ok (.iconst 0, 1) := by decide +kernel
theorem dL_local_22 : decode cL_local 22 = .ok (.ireturn, 1) := by decide +kernel
theorem lkh_local : LKH yL_local cL_local 5 (some .int) [(0, 10, 13, 13), (0, 10, 17, 15)] 4 := ⟨(qW_at 322 (by decide +kernel) rfl), (qW_at 74 (by decide +kernel) rfl), by decide, by decide, by decide +kernel⟩
theorem stl_local : Cond.static yL_local ∈ qW := (qW_at 321 (by decide +kernel) rfl)
set_option maxRecDepth 100000 in
set_option maxHeartbeats 1600000 in
theorem E_L_local (sv : Nat) (p0 p1 : Int32) : MEH yL_local cL_local 5 (some .int) [(0, 10, 13, 13), (0, 10, 17, 15)] 9 146 2 12 (fun DA => [.ref sv, .int p0, .int p1, .ref (sv + 62)]) (fun DA mm R => qty mm sv = (1, 7, 0) ∧ qty mm (sv + 62) = (3, 0, 1) ∧ ∃ r m1, F_X6_local sv p0 p1 mm = some (r, m1) ∧ KP sv mm m1 ∧ (∀ v, r = .ok v → True ∧ R (.ok (some (.int (I 0)))) (sal m1 (sv + 62) 0 v.toInt64)) ∧ (∀ e0, r = .error e0 → ∃ cd, mpB e0 = some cd ∧ ∀ n, qtop m1 ≤ n → R (.ok (some (.int (I cd)))) (stop m1 n))) := by
  refine MEH_of (env0 := fun DA => [(0, .ref sv), (1, .int p0), (2, .int p1), (3, .ref (sv + 62))]) (by decide) (fun DA => by exact Nat.le_of_ble_eq_true rfl) (fun DA => by rfl) (fun k mm R X C hR hN hr hname hP => ?_)
  have X : CX k cL_local RL := X
  have htr := C.2.2.2.1
  obtain ⟨h1, h62, r, m1, hx, hk, hok, her⟩ := hP
  let T9 : Nat → QM → Prop := fun e m' => ∃ cd, mpB e = some cd ∧ ∀ n, qtop m' ≤ n → R (.ok (some (.int (I cd)))) (stop m' n)
  have hTp : THp k 5 T9 := by
    intro e mm9 H locs ls rest ce q9 a9 b9 hT9 z9 hn9 hl9 hls9 hq9 hv9 hc9 ha9 hb9
    obtain ⟨cd, hcd, hR9⟩ := hT9
    unfold mpB at hcd
    by_cases e1 : e = 1
    · subst e1
      have hcd : some (1 : Int) = some cd := hcd
      cases hcd
      refine t_catch (e := 1) (hh := [(0, 10, 13, 13), (0, 10, 17, 15)]) (pre := []) (suf := [(0, 10, 17, 15)]) X C.2.1 rfl (by decide) (by decide) (by decide) (qW_at 195 (by decide +kernel) rfl) (qN_at 207 (by decide +kernel) rfl) (fun z hz => absurd hz List.not_mem_nil) (fun q n a b hn ha hb => ?_) H locs ls rest ce q9 a9 b9 z9 hn9 hl9 hls9 hq9 hv9 hc9 ha9 hb9
      refine g_astore (r := some q) (env' := [(4, .ref q)]) X dL_local_13 (by rw [hN]; decide) rfl ?_
      refine g_iconst (v := I 1) X dL_local_15 rfl ?_
      exact h_iret X C hr rfl dL_local_16 ha hb (hR9 n hn)
    · rw [if_neg e1] at hcd
      by_cases e2 : e = 2
      · subst e2
        have hcd : some (2 : Int) = some cd := hcd
        cases hcd
        refine t_catch (e := 2) (hh := [(0, 10, 13, 13), (0, 10, 17, 15)]) (pre := [(0, 10, 13, 13)]) (suf := []) X C.2.1 rfl (by decide) (by decide) (by decide) (qW_at 196 (by decide +kernel) rfl) (qN_at 276 (by decide +kernel) rfl) (fun z hz => by
          simp only [List.mem_cons, List.mem_nil_iff, or_false] at hz
          rcases hz with rfl
          · exact ⟨by decide, 1, by decide, by decide, (qW_at 195 (by decide +kernel) rfl)⟩) (fun q n a b hn ha hb => ?_) H locs ls rest ce q9 a9 b9 z9 hn9 hl9 hls9 hq9 hv9 hc9 ha9 hb9
        refine g_astore (r := some q) (env' := [(4, .ref q)]) X dL_local_17 (by rw [hN]; decide) rfl ?_
        refine g_iconst (v := I 2) X dL_local_19 rfl ?_
        exact h_iret X C hr rfl dL_local_20 ha hb (hR9 n hn)
      · rw [if_neg e2] at hcd
        exact absurd hcd (by simp)
  have h62' := hk.ty62 h62
  refine t_al 3 X dL_local_0 rfl rfl ?_
  refine g_iconst (v := I 0) X dL_local_1 rfl ?_
  refine t_al 0 X dL_local_2 rfl rfl ?_
  refine g_iload_n 1 X dL_local_3 rfl rfl ?_
  refine g_iload_n 2 X dL_local_4 rfl rfl ?_
  refine p_callV (st := [.int (I 0), .ref (sv + 62)]) (q := sv) (av := [.int p0, .int p1]) (T := T9) X hTp htr rfl h1 (M_X6_local sv p0 p1) lk_X6_local im_X6_local se_X6_local (qW_at 323 (by decide +kernel) rfl) rfl (by rw [hR]; exact ⟨Nat.le_of_ble_eq_true rfl, Nat.le_of_ble_eq_true rfl⟩) (by exact Nat.le_of_ble_eq_true rfl) (by rw [hR]; exact ⟨Nat.le_of_ble_eq_true rfl, Nat.le_of_ble_eq_true rfl⟩) dL_local_5 (by rfl) ?_
  unfold qwp
  rw [hx]
  cases r with
  | error e => exact her e rfl
  | ok v =>
    show GG k _ (.int v :: .int (I 0) :: .ref (sv + 62) :: []) m1 _ _ _
    refine g_i2l X dL_local_8 ?_
    refine g_last (q := sv + 62) (n := 1) X h62' (by intro q; rcases q with q | q <;> exact absurd q (by decide)) dL_local_9 ?_
    rw [show (I 0).toNatClampNeg = 0 from by decide]
    refine g_goto (tgt := 21) X dL_local_10 (by decide) ?_
    refine g_iconst (v := I 0) X dL_local_21 rfl ?_
    exact h_iret X C hr rfl dL_local_22 (by rw [hR]; exact Nat.le_of_ble_eq_true rfl) (by rw [hR]; exact Nat.le_of_ble_eq_true rfl) ((hok v rfl).2)
theorem dL_make_0 : decode cL_make 0 = .ok (.aload 6, 2) := by decide +kernel
theorem dL_make_2 : decode cL_make 2 = .ok (.iconst 0, 1) := by decide +kernel
theorem dL_make_3 : decode cL_make 3 = .ok (.aload_n 0, 1) := by decide +kernel
theorem dL_make_4 : decode cL_make 4 = .ok (.iload_n 1, 1) := by decide +kernel
theorem dL_make_5 : decode cL_make 5 = .ok (.iload_n 2, 1) := by decide +kernel
theorem dL_make_6 : decode cL_make 6 = .ok (.iload_n 3, 1) := by decide +kernel
theorem dL_make_7 : decode cL_make 7 = .ok (.iload 4, 2) := by decide +kernel
theorem dL_make_9 : decode cL_make 9 = .ok (.iload 5, 2) := by decide +kernel
theorem dL_make_11 : decode cL_make 11 = .ok (.invokevirtual 27, 3) := by decide +kernel
theorem dL_make_14 : decode cL_make 14 = .ok (.i2l, 1) := by decide +kernel
theorem dL_make_15 : decode cL_make 15 = .ok (.lastore, 1) := by decide +kernel
theorem dL_make_16 : decode cL_make 16 = .ok (.goto 15, 3) := by decide +kernel
theorem dL_make_19 : decode cL_make 19 = .ok (.astore 7, 2) := by decide +kernel
theorem dL_make_21 : decode cL_make 21 = .ok (.iconst 1, 1) := by decide +kernel
theorem dL_make_22 : decode cL_make 22 = .ok (.ireturn, 1) := by decide +kernel
theorem dL_make_23 : decode cL_make 23 = .ok (.astore 7, 2) := by decide +kernel
theorem dL_make_25 : decode cL_make 25 = .ok (.iconst 2, 1) := by decide +kernel
theorem dL_make_26 : decode cL_make 26 = .ok (.ireturn, 1) := by decide +kernel
theorem dL_make_27 : decode cL_make 27 = .ok (.astore 7, 2) := by decide +kernel
theorem dL_make_29 : decode cL_make 29 = .ok (.iconst 3, 1) := by decide +kernel
theorem dL_make_30 : decode cL_make 30 = .ok (.ireturn, 1) := by decide +kernel
theorem dL_make_31 : decode cL_make 31 = .ok (.iconst 0, 1) := by decide +kernel
theorem dL_make_32 : decode cL_make 32 = .ok (.ireturn, 1) := by decide +kernel
theorem lkh_make : LKH yL_make cL_make 8 (some .int) [(0, 16, 19, 13), (0, 16, 23, 15), (0, 16, 27, 31)] 7 := ⟨(qW_at 333 (by decide +kernel) rfl), (qW_at 74 (by decide +kernel) rfl), by decide, by decide, by decide +kernel⟩
theorem stl_make : Cond.static yL_make ∈ qW := (qW_at 332 (by decide +kernel) rfl)
set_option maxRecDepth 100000 in
set_option maxHeartbeats 1600000 in
theorem E_L_make (sv : Nat) (p0 p1 p2 p3 p4 : Int32) : MEH yL_make cL_make 8 (some .int) [(0, 16, 19, 13), (0, 16, 23, 15), (0, 16, 27, 31)] 10 172 16 861 (fun DA => [.ref sv, .int p0, .int p1, .int p2, .int p3, .int p4, .ref (sv + 62)]) (fun DA mm R => qty mm sv = (1, 7, 0) ∧ qty mm (sv + 62) = (3, 0, 1) ∧ ∃ r m1, F_X6_make sv p0 p1 p2 p3 p4 mm = some (r, m1) ∧ KP sv mm m1 ∧ (∀ v, r = .ok v → True ∧ R (.ok (some (.int (I 0)))) (sal m1 (sv + 62) 0 v.toInt64)) ∧ (∀ e0, r = .error e0 → ∃ cd, mpA e0 = some cd ∧ ∀ n, qtop m1 ≤ n → R (.ok (some (.int (I cd)))) (stop m1 n))) := by
  refine MEH_of (env0 := fun DA => [(0, .ref sv), (1, .int p0), (2, .int p1), (3, .int p2), (4, .int p3), (5, .int p4), (6, .ref (sv + 62))]) (by decide) (fun DA => by exact Nat.le_of_ble_eq_true rfl) (fun DA => by rfl) (fun k mm R X C hR hN hr hname hP => ?_)
  have X : CX k cL_make RL := X
  have htr := C.2.2.2.1
  obtain ⟨h1, h62, r, m1, hx, hk, hok, her⟩ := hP
  let T9 : Nat → QM → Prop := fun e m' => ∃ cd, mpA e = some cd ∧ ∀ n, qtop m' ≤ n → R (.ok (some (.int (I cd)))) (stop m' n)
  have hTp : THp k 11 T9 := by
    intro e mm9 H locs ls rest ce q9 a9 b9 hT9 z9 hn9 hl9 hls9 hq9 hv9 hc9 ha9 hb9
    obtain ⟨cd, hcd, hR9⟩ := hT9
    unfold mpA at hcd
    by_cases e1 : e = 1
    · subst e1
      have hcd : some (1 : Int) = some cd := hcd
      cases hcd
      refine t_catch (e := 1) (hh := [(0, 16, 19, 13), (0, 16, 23, 15), (0, 16, 27, 31)]) (pre := []) (suf := [(0, 16, 23, 15), (0, 16, 27, 31)]) X C.2.1 rfl (by decide) (by decide) (by decide) (qW_at 195 (by decide +kernel) rfl) (qN_at 207 (by decide +kernel) rfl) (fun z hz => absurd hz List.not_mem_nil) (fun q n a b hn ha hb => ?_) H locs ls rest ce q9 a9 b9 z9 hn9 hl9 hls9 hq9 hv9 hc9 ha9 hb9
      refine g_astore (r := some q) (env' := [(7, .ref q)]) X dL_make_19 (by rw [hN]; decide) rfl ?_
      refine g_iconst (v := I 1) X dL_make_21 rfl ?_
      exact h_iret X C hr rfl dL_make_22 ha hb (hR9 n hn)
    · rw [if_neg e1] at hcd
      by_cases e2 : e = 2
      · subst e2
        have hcd : some (2 : Int) = some cd := hcd
        cases hcd
        refine t_catch (e := 2) (hh := [(0, 16, 19, 13), (0, 16, 23, 15), (0, 16, 27, 31)]) (pre := [(0, 16, 19, 13)]) (suf := [(0, 16, 27, 31)]) X C.2.1 rfl (by decide) (by decide) (by decide) (qW_at 196 (by decide +kernel) rfl) (qN_at 276 (by decide +kernel) rfl) (fun z hz => by
          simp only [List.mem_cons, List.mem_nil_iff, or_false] at hz
          rcases hz with rfl
          · exact ⟨by decide, 1, by decide, by decide, (qW_at 195 (by decide +kernel) rfl)⟩) (fun q n a b hn ha hb => ?_) H locs ls rest ce q9 a9 b9 z9 hn9 hl9 hls9 hq9 hv9 hc9 ha9 hb9
        refine g_astore (r := some q) (env' := [(7, .ref q)]) X dL_make_23 (by rw [hN]; decide) rfl ?_
        refine g_iconst (v := I 2) X dL_make_25 rfl ?_
        exact h_iret X C hr rfl dL_make_26 ha hb (hR9 n hn)
      · rw [if_neg e2] at hcd
        by_cases e3 : e = 3
        · subst e3
          have hcd : some (3 : Int) = some cd := hcd
          cases hcd
          refine t_catch (e := 3) (hh := [(0, 16, 19, 13), (0, 16, 23, 15), (0, 16, 27, 31)]) (pre := [(0, 16, 19, 13), (0, 16, 23, 15)]) (suf := []) X C.2.1 rfl (by decide) (by decide) (by decide) (qW_at 334 (by decide +kernel) rfl) (qN_at 350 (by decide +kernel) rfl) (fun z hz => by
            simp only [List.mem_cons, List.mem_nil_iff, or_false] at hz
            rcases hz with rfl | rfl
            · exact ⟨by decide, 1, by decide, by decide, (qW_at 195 (by decide +kernel) rfl)⟩
            · exact ⟨by decide, 2, by decide, by decide, (qW_at 196 (by decide +kernel) rfl)⟩) (fun q n a b hn ha hb => ?_) H locs ls rest ce q9 a9 b9 z9 hn9 hl9 hls9 hq9 hv9 hc9 ha9 hb9
          refine g_astore (r := some q) (env' := [(7, .ref q)]) X dL_make_27 (by rw [hN]; decide) rfl ?_
          refine g_iconst (v := I 3) X dL_make_29 rfl ?_
          exact h_iret X C hr rfl dL_make_30 ha hb (hR9 n hn)
        · rw [if_neg e3] at hcd
          exact absurd hcd (by simp)
  have h62' := hk.ty62 h62
  refine g_aload (r := some (sv + 62)) 6 X dL_make_0 rfl ?_
  refine g_iconst (v := I 0) X dL_make_2 rfl ?_
  refine t_al 0 X dL_make_3 rfl rfl ?_
  refine g_iload_n 1 X dL_make_4 rfl rfl ?_
  refine g_iload_n 2 X dL_make_5 rfl rfl ?_
  refine g_iload_n 3 X dL_make_6 rfl rfl ?_
  refine g_iload 4 X dL_make_7 rfl ?_
  refine g_iload 5 X dL_make_9 rfl ?_
  refine p_callV (st := [.int (I 0), .ref (sv + 62)]) (q := sv) (av := [.int p0, .int p1, .int p2, .int p3, .int p4]) (T := T9) X hTp htr rfl h1 (M_X6_make sv p0 p1 p2 p3 p4) lk_X6_make im_X6_make se_X6_make (qW_at 335 (by decide +kernel) rfl) rfl (by rw [hR]; exact ⟨Nat.le_of_ble_eq_true rfl, Nat.le_of_ble_eq_true rfl⟩) (by exact Nat.le_of_ble_eq_true rfl) (by rw [hR]; exact ⟨Nat.le_of_ble_eq_true rfl, Nat.le_of_ble_eq_true rfl⟩) dL_make_11 (by rfl) ?_
  unfold qwp
  rw [hx]
  cases r with
  | error e => exact her e rfl
  | ok v =>
    show GG k _ (.int v :: .int (I 0) :: .ref (sv + 62) :: []) m1 _ _ _
    refine g_i2l X dL_make_14 ?_
    refine g_last (q := sv + 62) (n := 1) X h62' (by intro q; rcases q with q | q <;> exact absurd q (by decide)) dL_make_15 ?_
    rw [show (I 0).toNatClampNeg = 0 from by decide]
    refine g_goto (tgt := 31) X dL_make_16 (by decide) ?_
    refine g_iconst (v := I 0) X dL_make_31 rfl ?_
    exact h_iret X C hr rfl dL_make_32 (by rw [hR]; exact Nat.le_of_ble_eq_true rfl) (by rw [hR]; exact Nat.le_of_ble_eq_true rfl) ((hok v rfl).2)
theorem dL_time_0 : decode cL_time 0 = .ok (.aload 5, 2) := by decide +kernel
theorem dL_time_2 : decode cL_time 2 = .ok (.iconst 0, 1) := by decide +kernel
theorem dL_time_3 : decode cL_time 3 = .ok (.aload_n 0, 1) := by decide +kernel
theorem dL_time_4 : decode cL_time 4 = .ok (.iload_n 1, 1) := by decide +kernel
theorem dL_time_5 : decode cL_time 5 = .ok (.iload_n 2, 1) := by decide +kernel
theorem dL_time_6 : decode cL_time 6 = .ok (.iload_n 3, 1) := by decide +kernel
theorem dL_time_7 : decode cL_time 7 = .ok (.iload 4, 2) := by decide +kernel
theorem dL_time_9 : decode cL_time 9 = .ok (.invokevirtual 33, 3) := by decide +kernel
theorem dL_time_12 : decode cL_time 12 = .ok (.i2l, 1) := by decide +kernel
theorem dL_time_13 : decode cL_time 13 = .ok (.lastore, 1) := by decide +kernel
theorem dL_time_14 : decode cL_time 14 = .ok (.goto 15, 3) := by decide +kernel
theorem dL_time_17 : decode cL_time 17 = .ok (.astore 6, 2) := by decide +kernel
theorem dL_time_19 : decode cL_time 19 = .ok (.iconst 1, 1) := by decide +kernel
theorem dL_time_20 : decode cL_time 20 = .ok (.ireturn, 1) := by decide +kernel
theorem dL_time_21 : decode cL_time 21 = .ok (.astore 6, 2) := by decide +kernel
theorem dL_time_23 : decode cL_time 23 = .ok (.iconst 2, 1) := by decide +kernel
theorem dL_time_24 : decode cL_time 24 = .ok (.ireturn, 1) := by decide +kernel
theorem dL_time_25 : decode cL_time 25 = .ok (.astore 6, 2) := by decide +kernel
theorem dL_time_27 : decode cL_time 27 = .ok (.iconst 3, 1) := by decide +kernel
theorem dL_time_28 : decode cL_time 28 = .ok (.ireturn, 1) := by decide +kernel
theorem dL_time_29 : decode cL_time 29 = .ok (.iconst 0, 1) := by decide +kernel
theorem dL_time_30 : decode cL_time 30 = .ok (.ireturn, 1) := by decide +kernel
theorem lkh_time : LKH yL_time cL_time 7 (some .int) [(0, 14, 17, 13), (0, 14, 21, 15), (0, 14, 25, 31)] 6 := ⟨(qW_at 526 (by decide +kernel) rfl), (qW_at 74 (by decide +kernel) rfl), by decide, by decide, by decide +kernel⟩
theorem stl_time : Cond.static yL_time ∈ qW := (qW_at 525 (by decide +kernel) rfl)
set_option maxRecDepth 100000 in
set_option maxHeartbeats 1600000 in
theorem E_L_time (sv : Nat) (p0 p1 p2 p3 : Int32) : MEH yL_time cL_time 7 (some .int) [(0, 14, 17, 13), (0, 14, 21, 15), (0, 14, 25, 31)] 10 170 8 171 (fun DA => [.ref sv, .int p0, .int p1, .int p2, .int p3, .ref (sv + 62)]) (fun DA mm R => qty mm sv = (1, 7, 0) ∧ qty mm (sv + 62) = (3, 0, 1) ∧ ∃ r m1, F_X6_time sv p0 p1 p2 p3 mm = some (r, m1) ∧ KP sv mm m1 ∧ (∀ v, r = .ok v → True ∧ R (.ok (some (.int (I 0)))) (sal m1 (sv + 62) 0 v.toInt64)) ∧ (∀ e0, r = .error e0 → ∃ cd, mpA e0 = some cd ∧ ∀ n, qtop m1 ≤ n → R (.ok (some (.int (I cd)))) (stop m1 n))) := by
  refine MEH_of (env0 := fun DA => [(0, .ref sv), (1, .int p0), (2, .int p1), (3, .int p2), (4, .int p3), (5, .ref (sv + 62))]) (by decide) (fun DA => by exact Nat.le_of_ble_eq_true rfl) (fun DA => by rfl) (fun k mm R X C hR hN hr hname hP => ?_)
  have X : CX k cL_time RL := X
  have htr := C.2.2.2.1
  obtain ⟨h1, h62, r, m1, hx, hk, hok, her⟩ := hP
  let T9 : Nat → QM → Prop := fun e m' => ∃ cd, mpA e = some cd ∧ ∀ n, qtop m' ≤ n → R (.ok (some (.int (I cd)))) (stop m' n)
  have hTp : THp k 9 T9 := by
    intro e mm9 H locs ls rest ce q9 a9 b9 hT9 z9 hn9 hl9 hls9 hq9 hv9 hc9 ha9 hb9
    obtain ⟨cd, hcd, hR9⟩ := hT9
    unfold mpA at hcd
    by_cases e1 : e = 1
    · subst e1
      have hcd : some (1 : Int) = some cd := hcd
      cases hcd
      refine t_catch (e := 1) (hh := [(0, 14, 17, 13), (0, 14, 21, 15), (0, 14, 25, 31)]) (pre := []) (suf := [(0, 14, 21, 15), (0, 14, 25, 31)]) X C.2.1 rfl (by decide) (by decide) (by decide) (qW_at 195 (by decide +kernel) rfl) (qN_at 207 (by decide +kernel) rfl) (fun z hz => absurd hz List.not_mem_nil) (fun q n a b hn ha hb => ?_) H locs ls rest ce q9 a9 b9 z9 hn9 hl9 hls9 hq9 hv9 hc9 ha9 hb9
      refine g_astore (r := some q) (env' := [(6, .ref q)]) X dL_time_17 (by rw [hN]; decide) rfl ?_
      refine g_iconst (v := I 1) X dL_time_19 rfl ?_
      exact h_iret X C hr rfl dL_time_20 ha hb (hR9 n hn)
    · rw [if_neg e1] at hcd
      by_cases e2 : e = 2
      · subst e2
        have hcd : some (2 : Int) = some cd := hcd
        cases hcd
        refine t_catch (e := 2) (hh := [(0, 14, 17, 13), (0, 14, 21, 15), (0, 14, 25, 31)]) (pre := [(0, 14, 17, 13)]) (suf := [(0, 14, 25, 31)]) X C.2.1 rfl (by decide) (by decide) (by decide) (qW_at 196 (by decide +kernel) rfl) (qN_at 276 (by decide +kernel) rfl) (fun z hz => by
          simp only [List.mem_cons, List.mem_nil_iff, or_false] at hz
          rcases hz with rfl
          · exact ⟨by decide, 1, by decide, by decide, (qW_at 195 (by decide +kernel) rfl)⟩) (fun q n a b hn ha hb => ?_) H locs ls rest ce q9 a9 b9 z9 hn9 hl9 hls9 hq9 hv9 hc9 ha9 hb9
        refine g_astore (r := some q) (env' := [(6, .ref q)]) X dL_time_21 (by rw [hN]; decide) rfl ?_
        refine g_iconst (v := I 2) X dL_time_23 rfl ?_
        exact h_iret X C hr rfl dL_time_24 ha hb (hR9 n hn)
      · rw [if_neg e2] at hcd
        by_cases e3 : e = 3
        · subst e3
          have hcd : some (3 : Int) = some cd := hcd
          cases hcd
          refine t_catch (e := 3) (hh := [(0, 14, 17, 13), (0, 14, 21, 15), (0, 14, 25, 31)]) (pre := [(0, 14, 17, 13), (0, 14, 21, 15)]) (suf := []) X C.2.1 rfl (by decide) (by decide) (by decide) (qW_at 334 (by decide +kernel) rfl) (qN_at 350 (by decide +kernel) rfl) (fun z hz => by
            simp only [List.mem_cons, List.mem_nil_iff, or_false] at hz
            rcases hz with rfl | rfl
            · exact ⟨by decide, 1, by decide, by decide, (qW_at 195 (by decide +kernel) rfl)⟩
            · exact ⟨by decide, 2, by decide, by decide, (qW_at 196 (by decide +kernel) rfl)⟩) (fun q n a b hn ha hb => ?_) H locs ls rest ce q9 a9 b9 z9 hn9 hl9 hls9 hq9 hv9 hc9 ha9 hb9
          refine g_astore (r := some q) (env' := [(6, .ref q)]) X dL_time_25 (by rw [hN]; decide) rfl ?_
          refine g_iconst (v := I 3) X dL_time_27 rfl ?_
          exact h_iret X C hr rfl dL_time_28 ha hb (hR9 n hn)
        · rw [if_neg e3] at hcd
          exact absurd hcd (by simp)
  have h62' := hk.ty62 h62
  refine g_aload (r := some (sv + 62)) 5 X dL_time_0 rfl ?_
  refine g_iconst (v := I 0) X dL_time_2 rfl ?_
  refine t_al 0 X dL_time_3 rfl rfl ?_
  refine g_iload_n 1 X dL_time_4 rfl rfl ?_
  refine g_iload_n 2 X dL_time_5 rfl rfl ?_
  refine g_iload_n 3 X dL_time_6 rfl rfl ?_
  refine g_iload 4 X dL_time_7 rfl ?_
  refine p_callV (st := [.int (I 0), .ref (sv + 62)]) (q := sv) (av := [.int p0, .int p1, .int p2, .int p3]) (T := T9) X hTp htr rfl h1 (M_X6_time sv p0 p1 p2 p3) lk_X6_time im_X6_time se_X6_time (qW_at 527 (by decide +kernel) rfl) rfl (by rw [hR]; exact ⟨Nat.le_of_ble_eq_true rfl, Nat.le_of_ble_eq_true rfl⟩) (by exact Nat.le_of_ble_eq_true rfl) (by rw [hR]; exact ⟨Nat.le_of_ble_eq_true rfl, Nat.le_of_ble_eq_true rfl⟩) dL_time_9 (by rfl) ?_
  unfold qwp
  rw [hx]
  cases r with
  | error e => exact her e rfl
  | ok v =>
    show GG k _ (.int v :: .int (I 0) :: .ref (sv + 62) :: []) m1 _ _ _
    refine g_i2l X dL_time_12 ?_
    refine g_last (q := sv + 62) (n := 1) X h62' (by intro q; rcases q with q | q <;> exact absurd q (by decide)) dL_time_13 ?_
    rw [show (I 0).toNatClampNeg = 0 from by decide]
    refine g_goto (tgt := 29) X dL_time_14 (by decide) ?_
    refine g_iconst (v := I 0) X dL_time_29 rfl ?_
    exact h_iret X C hr rfl dL_time_30 (by rw [hR]; exact Nat.le_of_ble_eq_true rfl) (by rw [hR]; exact Nat.le_of_ble_eq_true rfl) ((hok v rfl).2)
theorem dL_repeat_0 : decode cL_repeat 0 = .ok (.aload 5, 2) := by decide +kernel
theorem dL_repeat_2 : decode cL_repeat 2 = .ok (.iconst 0, 1) := by decide +kernel
theorem dL_repeat_3 : decode cL_repeat 3 = .ok (.aload_n 0, 1) := by decide +kernel
theorem dL_repeat_4 : decode cL_repeat 4 = .ok (.iload_n 1, 1) := by decide +kernel
theorem dL_repeat_5 : decode cL_repeat 5 = .ok (.iload_n 2, 1) := by decide +kernel
theorem dL_repeat_6 : decode cL_repeat 6 = .ok (.iload_n 3, 1) := by decide +kernel
theorem dL_repeat_7 : decode cL_repeat 7 = .ok (.iload 4, 2) := by decide +kernel
theorem dL_repeat_9 : decode cL_repeat 9 = .ok (.invokevirtual 37, 3) := by decide +kernel
theorem dL_repeat_12 : decode cL_repeat 12 = .ok (.i2l, 1) := by decide +kernel
theorem dL_repeat_13 : decode cL_repeat 13 = .ok (.lastore, 1) := by decide +kernel
theorem dL_repeat_14 : decode cL_repeat 14 = .ok (.goto 15, 3) := by decide +kernel
theorem dL_repeat_17 : decode cL_repeat 17 = .ok (.astore 6, 2) := by decide +kernel
theorem dL_repeat_19 : decode cL_repeat 19 = .ok (.iconst 1, 1) := by decide +kernel
theorem dL_repeat_20 : decode cL_repeat 20 = .ok (.ireturn, 1) := by decide +kernel
theorem dL_repeat_21 : decode cL_repeat 21 = .ok (.astore 6, 2) := by decide +kernel
theorem dL_repeat_23 : decode cL_repeat 23 = .ok (.iconst 2, 1) := by decide +kernel
theorem dL_repeat_24 : decode cL_repeat 24 = .ok (.ireturn, 1) := by decide +kernel
theorem dL_repeat_25 : decode cL_repeat 25 = .ok (.astore 6, 2) := by decide +kernel
theorem dL_repeat_27 : decode cL_repeat 27 = .ok (.iconst 3, 1) := by decide +kernel
theorem dL_repeat_28 : decode cL_repeat 28 = .ok (.ireturn, 1) := by decide +kernel
theorem dL_repeat_29 : decode cL_repeat 29 = .ok (.iconst 0, 1) := by decide +kernel
theorem dL_repeat_30 : decode cL_repeat 30 = .ok (.ireturn, 1) := by decide +kernel
theorem lkh_repeat : LKH yL_repeat cL_repeat 7 (some .int) [(0, 14, 17, 13), (0, 14, 21, 15), (0, 14, 25, 31)] 6 := ⟨(qW_at 549 (by decide +kernel) rfl), (qW_at 74 (by decide +kernel) rfl), by decide, by decide, by decide +kernel⟩
theorem stl_repeat : Cond.static yL_repeat ∈ qW := (qW_at 548 (by decide +kernel) rfl)
set_option maxRecDepth 100000 in
set_option maxHeartbeats 1600000 in
theorem E_L_repeat (sv : Nat) (p0 p1 p2 p3 : Int32) : MEH yL_repeat cL_repeat 7 (some .int) [(0, 14, 17, 13), (0, 14, 21, 15), (0, 14, 25, 31)] 9 148 8 171 (fun DA => [.ref sv, .int p0, .int p1, .int p2, .int p3, .ref (sv + 62)]) (fun DA mm R => qty mm sv = (1, 7, 0) ∧ qty mm (sv + 62) = (3, 0, 1) ∧ ∃ r m1, F_X6_repeat sv p0 p1 p2 p3 mm = some (r, m1) ∧ KP sv mm m1 ∧ (∀ v, r = .ok v → True ∧ R (.ok (some (.int (I 0)))) (sal m1 (sv + 62) 0 v.toInt64)) ∧ (∀ e0, r = .error e0 → ∃ cd, mpA e0 = some cd ∧ ∀ n, qtop m1 ≤ n → R (.ok (some (.int (I cd)))) (stop m1 n))) := by
  refine MEH_of (env0 := fun DA => [(0, .ref sv), (1, .int p0), (2, .int p1), (3, .int p2), (4, .int p3), (5, .ref (sv + 62))]) (by decide) (fun DA => by exact Nat.le_of_ble_eq_true rfl) (fun DA => by rfl) (fun k mm R X C hR hN hr hname hP => ?_)
  have X : CX k cL_repeat RL := X
  have htr := C.2.2.2.1
  obtain ⟨h1, h62, r, m1, hx, hk, hok, her⟩ := hP
  let T9 : Nat → QM → Prop := fun e m' => ∃ cd, mpA e = some cd ∧ ∀ n, qtop m' ≤ n → R (.ok (some (.int (I cd)))) (stop m' n)
  have hTp : THp k 9 T9 := by
    intro e mm9 H locs ls rest ce q9 a9 b9 hT9 z9 hn9 hl9 hls9 hq9 hv9 hc9 ha9 hb9
    obtain ⟨cd, hcd, hR9⟩ := hT9
    unfold mpA at hcd
    by_cases e1 : e = 1
    · subst e1
      have hcd : some (1 : Int) = some cd := hcd
      cases hcd
      refine t_catch (e := 1) (hh := [(0, 14, 17, 13), (0, 14, 21, 15), (0, 14, 25, 31)]) (pre := []) (suf := [(0, 14, 21, 15), (0, 14, 25, 31)]) X C.2.1 rfl (by decide) (by decide) (by decide) (qW_at 195 (by decide +kernel) rfl) (qN_at 207 (by decide +kernel) rfl) (fun z hz => absurd hz List.not_mem_nil) (fun q n a b hn ha hb => ?_) H locs ls rest ce q9 a9 b9 z9 hn9 hl9 hls9 hq9 hv9 hc9 ha9 hb9
      refine g_astore (r := some q) (env' := [(6, .ref q)]) X dL_repeat_17 (by rw [hN]; decide) rfl ?_
      refine g_iconst (v := I 1) X dL_repeat_19 rfl ?_
      exact h_iret X C hr rfl dL_repeat_20 ha hb (hR9 n hn)
    · rw [if_neg e1] at hcd
      by_cases e2 : e = 2
      · subst e2
        have hcd : some (2 : Int) = some cd := hcd
        cases hcd
        refine t_catch (e := 2) (hh := [(0, 14, 17, 13), (0, 14, 21, 15), (0, 14, 25, 31)]) (pre := [(0, 14, 17, 13)]) (suf := [(0, 14, 25, 31)]) X C.2.1 rfl (by decide) (by decide) (by decide) (qW_at 196 (by decide +kernel) rfl) (qN_at 276 (by decide +kernel) rfl) (fun z hz => by
          simp only [List.mem_cons, List.mem_nil_iff, or_false] at hz
          rcases hz with rfl
          · exact ⟨by decide, 1, by decide, by decide, (qW_at 195 (by decide +kernel) rfl)⟩) (fun q n a b hn ha hb => ?_) H locs ls rest ce q9 a9 b9 z9 hn9 hl9 hls9 hq9 hv9 hc9 ha9 hb9
        refine g_astore (r := some q) (env' := [(6, .ref q)]) X dL_repeat_21 (by rw [hN]; decide) rfl ?_
        refine g_iconst (v := I 2) X dL_repeat_23 rfl ?_
        exact h_iret X C hr rfl dL_repeat_24 ha hb (hR9 n hn)
      · rw [if_neg e2] at hcd
        by_cases e3 : e = 3
        · subst e3
          have hcd : some (3 : Int) = some cd := hcd
          cases hcd
          refine t_catch (e := 3) (hh := [(0, 14, 17, 13), (0, 14, 21, 15), (0, 14, 25, 31)]) (pre := [(0, 14, 17, 13), (0, 14, 21, 15)]) (suf := []) X C.2.1 rfl (by decide) (by decide) (by decide) (qW_at 334 (by decide +kernel) rfl) (qN_at 350 (by decide +kernel) rfl) (fun z hz => by
            simp only [List.mem_cons, List.mem_nil_iff, or_false] at hz
            rcases hz with rfl | rfl
            · exact ⟨by decide, 1, by decide, by decide, (qW_at 195 (by decide +kernel) rfl)⟩
            · exact ⟨by decide, 2, by decide, by decide, (qW_at 196 (by decide +kernel) rfl)⟩) (fun q n a b hn ha hb => ?_) H locs ls rest ce q9 a9 b9 z9 hn9 hl9 hls9 hq9 hv9 hc9 ha9 hb9
          refine g_astore (r := some q) (env' := [(6, .ref q)]) X dL_repeat_25 (by rw [hN]; decide) rfl ?_
          refine g_iconst (v := I 3) X dL_repeat_27 rfl ?_
          exact h_iret X C hr rfl dL_repeat_28 ha hb (hR9 n hn)
        · rw [if_neg e3] at hcd
          exact absurd hcd (by simp)
  have h62' := hk.ty62 h62
  refine g_aload (r := some (sv + 62)) 5 X dL_repeat_0 rfl ?_
  refine g_iconst (v := I 0) X dL_repeat_2 rfl ?_
  refine t_al 0 X dL_repeat_3 rfl rfl ?_
  refine g_iload_n 1 X dL_repeat_4 rfl rfl ?_
  refine g_iload_n 2 X dL_repeat_5 rfl rfl ?_
  refine g_iload_n 3 X dL_repeat_6 rfl rfl ?_
  refine g_iload 4 X dL_repeat_7 rfl ?_
  refine p_callV (st := [.int (I 0), .ref (sv + 62)]) (q := sv) (av := [.int p0, .int p1, .int p2, .int p3]) (T := T9) X hTp htr rfl h1 (M_X6_repeat sv p0 p1 p2 p3) lk_X6_repeat im_X6_repeat se_X6_repeat (qW_at 550 (by decide +kernel) rfl) rfl (by rw [hR]; exact ⟨Nat.le_of_ble_eq_true rfl, Nat.le_of_ble_eq_true rfl⟩) (by exact Nat.le_of_ble_eq_true rfl) (by rw [hR]; exact ⟨Nat.le_of_ble_eq_true rfl, Nat.le_of_ble_eq_true rfl⟩) dL_repeat_9 (by rfl) ?_
  unfold qwp
  rw [hx]
  cases r with
  | error e => exact her e rfl
  | ok v =>
    show GG k _ (.int v :: .int (I 0) :: .ref (sv + 62) :: []) m1 _ _ _
    refine g_i2l X dL_repeat_12 ?_
    refine g_last (q := sv + 62) (n := 1) X h62' (by intro q; rcases q with q | q <;> exact absurd q (by decide)) dL_repeat_13 ?_
    rw [show (I 0).toNatClampNeg = 0 from by decide]
    refine g_goto (tgt := 29) X dL_repeat_14 (by decide) ?_
    refine g_iconst (v := I 0) X dL_repeat_29 rfl ?_
    exact h_iret X C hr rfl dL_repeat_30 (by rw [hR]; exact Nat.le_of_ble_eq_true rfl) (by rw [hR]; exact Nat.le_of_ble_eq_true rfl) ((hok v rfl).2)
theorem dL_drop_0 : decode cL_drop 0 = .ok (.aload_n 3, 1) := by decide +kernel
theorem dL_drop_1 : decode cL_drop 1 = .ok (.iconst 0, 1) := by decide +kernel
theorem dL_drop_2 : decode cL_drop 2 = .ok (.aload_n 0, 1) := by decide +kernel
theorem dL_drop_3 : decode cL_drop 3 = .ok (.iload_n 1, 1) := by decide +kernel
theorem dL_drop_4 : decode cL_drop 4 = .ok (.iload_n 2, 1) := by decide +kernel
theorem dL_drop_5 : decode cL_drop 5 = .ok (.invokevirtual 40, 3) := by decide +kernel
theorem dL_drop_8 : decode cL_drop 8 = .ok (.i2l, 1) := by decide +kernel
theorem dL_drop_9 : decode cL_drop 9 = .ok (.lastore, 1) := by decide +kernel
theorem dL_drop_10 : decode cL_drop 10 = .ok (.goto 15, 3) := by decide +kernel
theorem dL_drop_13 : decode cL_drop 13 = .ok (.astore 4, 2) := by decide +kernel
theorem dL_drop_15 : decode cL_drop 15 = .ok (.iconst 1, 1) := by decide +kernel
theorem dL_drop_16 : decode cL_drop 16 = .ok (.ireturn, 1) := by decide +kernel
theorem dL_drop_17 : decode cL_drop 17 = .ok (.astore 4, 2) := by decide +kernel
theorem dL_drop_19 : decode cL_drop 19 = .ok (.iconst 2, 1) := by decide +kernel
theorem dL_drop_20 : decode cL_drop 20 = .ok (.ireturn, 1) := by decide +kernel
theorem dL_drop_21 : decode cL_drop 21 = .ok (.astore 4, 2) := by decide +kernel
theorem dL_drop_23 : decode cL_drop 23 = .ok (.iconst 3, 1) := by decide +kernel
theorem dL_drop_24 : decode cL_drop 24 = .ok (.ireturn, 1) := by decide +kernel
theorem dL_drop_25 : decode cL_drop 25 = .ok (.iconst 0, 1) := by decide +kernel
theorem dL_drop_26 : decode cL_drop 26 = .ok (.ireturn, 1) := by decide +kernel
theorem lkh_drop : LKH yL_drop cL_drop 5 (some .int) [(0, 10, 13, 13), (0, 10, 17, 15), (0, 10, 21, 31)] 4 := ⟨(qW_at 560 (by decide +kernel) rfl), (qW_at 74 (by decide +kernel) rfl), by decide, by decide, by decide +kernel⟩
theorem stl_drop : Cond.static yL_drop ∈ qW := (qW_at 559 (by decide +kernel) rfl)
set_option maxRecDepth 100000 in
set_option maxHeartbeats 1600000 in
theorem E_L_drop (sv : Nat) (p0 p1 : Int32) : MEH yL_drop cL_drop 5 (some .int) [(0, 10, 13, 13), (0, 10, 17, 15), (0, 10, 21, 31)] 9 144 6 159 (fun DA => [.ref sv, .int p0, .int p1, .ref (sv + 62)]) (fun DA mm R => qty mm sv = (1, 7, 0) ∧ qty mm (sv + 62) = (3, 0, 1) ∧ ∃ r m1, F_X6_drop sv p0 p1 mm = some (r, m1) ∧ KP sv mm m1 ∧ (∀ v, r = .ok v → True ∧ R (.ok (some (.int (I 0)))) (sal m1 (sv + 62) 0 v.toInt64)) ∧ (∀ e0, r = .error e0 → ∃ cd, mpA e0 = some cd ∧ ∀ n, qtop m1 ≤ n → R (.ok (some (.int (I cd)))) (stop m1 n))) := by
  refine MEH_of (env0 := fun DA => [(0, .ref sv), (1, .int p0), (2, .int p1), (3, .ref (sv + 62))]) (by decide) (fun DA => by exact Nat.le_of_ble_eq_true rfl) (fun DA => by rfl) (fun k mm R X C hR hN hr hname hP => ?_)
  have X : CX k cL_drop RL := X
  have htr := C.2.2.2.1
  obtain ⟨h1, h62, r, m1, hx, hk, hok, her⟩ := hP
  let T9 : Nat → QM → Prop := fun e m' => ∃ cd, mpA e = some cd ∧ ∀ n, qtop m' ≤ n → R (.ok (some (.int (I cd)))) (stop m' n)
  have hTp : THp k 5 T9 := by
    intro e mm9 H locs ls rest ce q9 a9 b9 hT9 z9 hn9 hl9 hls9 hq9 hv9 hc9 ha9 hb9
    obtain ⟨cd, hcd, hR9⟩ := hT9
    unfold mpA at hcd
    by_cases e1 : e = 1
    · subst e1
      have hcd : some (1 : Int) = some cd := hcd
      cases hcd
      refine t_catch (e := 1) (hh := [(0, 10, 13, 13), (0, 10, 17, 15), (0, 10, 21, 31)]) (pre := []) (suf := [(0, 10, 17, 15), (0, 10, 21, 31)]) X C.2.1 rfl (by decide) (by decide) (by decide) (qW_at 195 (by decide +kernel) rfl) (qN_at 207 (by decide +kernel) rfl) (fun z hz => absurd hz List.not_mem_nil) (fun q n a b hn ha hb => ?_) H locs ls rest ce q9 a9 b9 z9 hn9 hl9 hls9 hq9 hv9 hc9 ha9 hb9
      refine g_astore (r := some q) (env' := [(4, .ref q)]) X dL_drop_13 (by rw [hN]; decide) rfl ?_
      refine g_iconst (v := I 1) X dL_drop_15 rfl ?_
      exact h_iret X C hr rfl dL_drop_16 ha hb (hR9 n hn)
    · rw [if_neg e1] at hcd
      by_cases e2 : e = 2
      · subst e2
        have hcd : some (2 : Int) = some cd := hcd
        cases hcd
        refine t_catch (e := 2) (hh := [(0, 10, 13, 13), (0, 10, 17, 15), (0, 10, 21, 31)]) (pre := [(0, 10, 13, 13)]) (suf := [(0, 10, 21, 31)]) X C.2.1 rfl (by decide) (by decide) (by decide) (qW_at 196 (by decide +kernel) rfl) (qN_at 276 (by decide +kernel) rfl) (fun z hz => by
          simp only [List.mem_cons, List.mem_nil_iff, or_false] at hz
          rcases hz with rfl
          · exact ⟨by decide, 1, by decide, by decide, (qW_at 195 (by decide +kernel) rfl)⟩) (fun q n a b hn ha hb => ?_) H locs ls rest ce q9 a9 b9 z9 hn9 hl9 hls9 hq9 hv9 hc9 ha9 hb9
        refine g_astore (r := some q) (env' := [(4, .ref q)]) X dL_drop_17 (by rw [hN]; decide) rfl ?_
        refine g_iconst (v := I 2) X dL_drop_19 rfl ?_
        exact h_iret X C hr rfl dL_drop_20 ha hb (hR9 n hn)
      · rw [if_neg e2] at hcd
        by_cases e3 : e = 3
        · subst e3
          have hcd : some (3 : Int) = some cd := hcd
          cases hcd
          refine t_catch (e := 3) (hh := [(0, 10, 13, 13), (0, 10, 17, 15), (0, 10, 21, 31)]) (pre := [(0, 10, 13, 13), (0, 10, 17, 15)]) (suf := []) X C.2.1 rfl (by decide) (by decide) (by decide) (qW_at 334 (by decide +kernel) rfl) (qN_at 350 (by decide +kernel) rfl) (fun z hz => by
            simp only [List.mem_cons, List.mem_nil_iff, or_false] at hz
            rcases hz with rfl | rfl
            · exact ⟨by decide, 1, by decide, by decide, (qW_at 195 (by decide +kernel) rfl)⟩
            · exact ⟨by decide, 2, by decide, by decide, (qW_at 196 (by decide +kernel) rfl)⟩) (fun q n a b hn ha hb => ?_) H locs ls rest ce q9 a9 b9 z9 hn9 hl9 hls9 hq9 hv9 hc9 ha9 hb9
          refine g_astore (r := some q) (env' := [(4, .ref q)]) X dL_drop_21 (by rw [hN]; decide) rfl ?_
          refine g_iconst (v := I 3) X dL_drop_23 rfl ?_
          exact h_iret X C hr rfl dL_drop_24 ha hb (hR9 n hn)
        · rw [if_neg e3] at hcd
          exact absurd hcd (by simp)
  have h62' := hk.ty62 h62
  refine t_al 3 X dL_drop_0 rfl rfl ?_
  refine g_iconst (v := I 0) X dL_drop_1 rfl ?_
  refine t_al 0 X dL_drop_2 rfl rfl ?_
  refine g_iload_n 1 X dL_drop_3 rfl rfl ?_
  refine g_iload_n 2 X dL_drop_4 rfl rfl ?_
  refine p_callV (st := [.int (I 0), .ref (sv + 62)]) (q := sv) (av := [.int p0, .int p1]) (T := T9) X hTp htr rfl h1 (M_X6_drop sv p0 p1) lk_X6_drop im_X6_drop se_X6_drop (qW_at 561 (by decide +kernel) rfl) rfl (by rw [hR]; exact ⟨Nat.le_of_ble_eq_true rfl, Nat.le_of_ble_eq_true rfl⟩) (by exact Nat.le_of_ble_eq_true rfl) (by rw [hR]; exact ⟨Nat.le_of_ble_eq_true rfl, Nat.le_of_ble_eq_true rfl⟩) dL_drop_5 (by rfl) ?_
  unfold qwp
  rw [hx]
  cases r with
  | error e => exact her e rfl
  | ok v =>
    show GG k _ (.int v :: .int (I 0) :: .ref (sv + 62) :: []) m1 _ _ _
    refine g_i2l X dL_drop_8 ?_
    refine g_last (q := sv + 62) (n := 1) X h62' (by intro q; rcases q with q | q <;> exact absurd q (by decide)) dL_drop_9 ?_
    rw [show (I 0).toNatClampNeg = 0 from by decide]
    refine g_goto (tgt := 25) X dL_drop_10 (by decide) ?_
    refine g_iconst (v := I 0) X dL_drop_25 rfl ?_
    exact h_iret X C hr rfl dL_drop_26 (by rw [hR]; exact Nat.le_of_ble_eq_true rfl) (by rw [hR]; exact Nat.le_of_ble_eq_true rfl) ((hok v rfl).2)
theorem dL_add_0 : decode cL_add 0 = .ok (.aload_n 3, 1) := by decide +kernel
theorem dL_add_1 : decode cL_add 1 = .ok (.iconst 0, 1) := by decide +kernel
theorem dL_add_2 : decode cL_add 2 = .ok (.aload_n 0, 1) := by decide +kernel
theorem dL_add_3 : decode cL_add 3 = .ok (.iload_n 1, 1) := by decide +kernel
theorem dL_add_4 : decode cL_add 4 = .ok (.iload_n 2, 1) := by decide +kernel
theorem dL_add_5 : decode cL_add 5 = .ok (.invokevirtual 43, 3) := by decide +kernel
theorem dL_add_8 : decode cL_add 8 = .ok (.i2l, 1) := by decide +kernel
theorem dL_add_9 : decode cL_add 9 = .ok (.lastore, 1) := by decide +kernel
theorem dL_add_10 : decode cL_add 10 = .ok (.goto 15, 3) := by decide +kernel
theorem dL_add_13 : decode cL_add 13 = .ok (.astore 4, 2) := by decide +kernel
theorem dL_add_15 : decode cL_add 15 = .ok (.iconst 1, 1) := by decide +kernel
theorem dL_add_16 : decode cL_add 16 = .ok (.ireturn, 1) := by decide +kernel
theorem dL_add_17 : decode cL_add 17 = .ok (.astore 4, 2) := by decide +kernel
theorem dL_add_19 : decode cL_add 19 = .ok (.iconst 2, 1) := by decide +kernel
theorem dL_add_20 : decode cL_add 20 = .ok (.ireturn, 1) := by decide +kernel
theorem dL_add_21 : decode cL_add 21 = .ok (.astore 4, 2) := by decide +kernel
theorem dL_add_23 : decode cL_add 23 = .ok (.iconst 3, 1) := by decide +kernel
theorem dL_add_24 : decode cL_add 24 = .ok (.ireturn, 1) := by decide +kernel
theorem dL_add_25 : decode cL_add 25 = .ok (.iconst 0, 1) := by decide +kernel
theorem dL_add_26 : decode cL_add 26 = .ok (.ireturn, 1) := by decide +kernel
theorem lkh_add : LKH yL_add cL_add 5 (some .int) [(0, 10, 13, 13), (0, 10, 17, 15), (0, 10, 21, 31)] 4 := ⟨(qW_at 583 (by decide +kernel) rfl), (qW_at 74 (by decide +kernel) rfl), by decide, by decide, by decide +kernel⟩
theorem stl_add : Cond.static yL_add ∈ qW := (qW_at 582 (by decide +kernel) rfl)
set_option maxRecDepth 100000 in
set_option maxHeartbeats 1600000 in
theorem E_L_add (sv : Nat) (p0 p1 : Int32) : MEH yL_add cL_add 5 (some .int) [(0, 10, 13, 13), (0, 10, 17, 15), (0, 10, 21, 31)] 9 144 6 159 (fun DA => [.ref sv, .int p0, .int p1, .ref (sv + 62)]) (fun DA mm R => qty mm sv = (1, 7, 0) ∧ qty mm (sv + 62) = (3, 0, 1) ∧ ∃ r m1, F_X6_add sv p0 p1 mm = some (r, m1) ∧ KP sv mm m1 ∧ (∀ v, r = .ok v → True ∧ R (.ok (some (.int (I 0)))) (sal m1 (sv + 62) 0 v.toInt64)) ∧ (∀ e0, r = .error e0 → ∃ cd, mpA e0 = some cd ∧ ∀ n, qtop m1 ≤ n → R (.ok (some (.int (I cd)))) (stop m1 n))) := by
  refine MEH_of (env0 := fun DA => [(0, .ref sv), (1, .int p0), (2, .int p1), (3, .ref (sv + 62))]) (by decide) (fun DA => by exact Nat.le_of_ble_eq_true rfl) (fun DA => by rfl) (fun k mm R X C hR hN hr hname hP => ?_)
  have X : CX k cL_add RL := X
  have htr := C.2.2.2.1
  obtain ⟨h1, h62, r, m1, hx, hk, hok, her⟩ := hP
  let T9 : Nat → QM → Prop := fun e m' => ∃ cd, mpA e = some cd ∧ ∀ n, qtop m' ≤ n → R (.ok (some (.int (I cd)))) (stop m' n)
  have hTp : THp k 5 T9 := by
    intro e mm9 H locs ls rest ce q9 a9 b9 hT9 z9 hn9 hl9 hls9 hq9 hv9 hc9 ha9 hb9
    obtain ⟨cd, hcd, hR9⟩ := hT9
    unfold mpA at hcd
    by_cases e1 : e = 1
    · subst e1
      have hcd : some (1 : Int) = some cd := hcd
      cases hcd
      refine t_catch (e := 1) (hh := [(0, 10, 13, 13), (0, 10, 17, 15), (0, 10, 21, 31)]) (pre := []) (suf := [(0, 10, 17, 15), (0, 10, 21, 31)]) X C.2.1 rfl (by decide) (by decide) (by decide) (qW_at 195 (by decide +kernel) rfl) (qN_at 207 (by decide +kernel) rfl) (fun z hz => absurd hz List.not_mem_nil) (fun q n a b hn ha hb => ?_) H locs ls rest ce q9 a9 b9 z9 hn9 hl9 hls9 hq9 hv9 hc9 ha9 hb9
      refine g_astore (r := some q) (env' := [(4, .ref q)]) X dL_add_13 (by rw [hN]; decide) rfl ?_
      refine g_iconst (v := I 1) X dL_add_15 rfl ?_
      exact h_iret X C hr rfl dL_add_16 ha hb (hR9 n hn)
    · rw [if_neg e1] at hcd
      by_cases e2 : e = 2
      · subst e2
        have hcd : some (2 : Int) = some cd := hcd
        cases hcd
        refine t_catch (e := 2) (hh := [(0, 10, 13, 13), (0, 10, 17, 15), (0, 10, 21, 31)]) (pre := [(0, 10, 13, 13)]) (suf := [(0, 10, 21, 31)]) X C.2.1 rfl (by decide) (by decide) (by decide) (qW_at 196 (by decide +kernel) rfl) (qN_at 276 (by decide +kernel) rfl) (fun z hz => by
          simp only [List.mem_cons, List.mem_nil_iff, or_false] at hz
          rcases hz with rfl
          · exact ⟨by decide, 1, by decide, by decide, (qW_at 195 (by decide +kernel) rfl)⟩) (fun q n a b hn ha hb => ?_) H locs ls rest ce q9 a9 b9 z9 hn9 hl9 hls9 hq9 hv9 hc9 ha9 hb9
        refine g_astore (r := some q) (env' := [(4, .ref q)]) X dL_add_17 (by rw [hN]; decide) rfl ?_
        refine g_iconst (v := I 2) X dL_add_19 rfl ?_
        exact h_iret X C hr rfl dL_add_20 ha hb (hR9 n hn)
      · rw [if_neg e2] at hcd
        by_cases e3 : e = 3
        · subst e3
          have hcd : some (3 : Int) = some cd := hcd
          cases hcd
          refine t_catch (e := 3) (hh := [(0, 10, 13, 13), (0, 10, 17, 15), (0, 10, 21, 31)]) (pre := [(0, 10, 13, 13), (0, 10, 17, 15)]) (suf := []) X C.2.1 rfl (by decide) (by decide) (by decide) (qW_at 334 (by decide +kernel) rfl) (qN_at 350 (by decide +kernel) rfl) (fun z hz => by
            simp only [List.mem_cons, List.mem_nil_iff, or_false] at hz
            rcases hz with rfl | rfl
            · exact ⟨by decide, 1, by decide, by decide, (qW_at 195 (by decide +kernel) rfl)⟩
            · exact ⟨by decide, 2, by decide, by decide, (qW_at 196 (by decide +kernel) rfl)⟩) (fun q n a b hn ha hb => ?_) H locs ls rest ce q9 a9 b9 z9 hn9 hl9 hls9 hq9 hv9 hc9 ha9 hb9
          refine g_astore (r := some q) (env' := [(4, .ref q)]) X dL_add_21 (by rw [hN]; decide) rfl ?_
          refine g_iconst (v := I 3) X dL_add_23 rfl ?_
          exact h_iret X C hr rfl dL_add_24 ha hb (hR9 n hn)
        · rw [if_neg e3] at hcd
          exact absurd hcd (by simp)
  have h62' := hk.ty62 h62
  refine t_al 3 X dL_add_0 rfl rfl ?_
  refine g_iconst (v := I 0) X dL_add_1 rfl ?_
  refine t_al 0 X dL_add_2 rfl rfl ?_
  refine g_iload_n 1 X dL_add_3 rfl rfl ?_
  refine g_iload_n 2 X dL_add_4 rfl rfl ?_
  refine p_callV (st := [.int (I 0), .ref (sv + 62)]) (q := sv) (av := [.int p0, .int p1]) (T := T9) X hTp htr rfl h1 (M_X6_add sv p0 p1) lk_X6_add im_X6_add se_X6_add (qW_at 584 (by decide +kernel) rfl) rfl (by rw [hR]; exact ⟨Nat.le_of_ble_eq_true rfl, Nat.le_of_ble_eq_true rfl⟩) (by exact Nat.le_of_ble_eq_true rfl) (by rw [hR]; exact ⟨Nat.le_of_ble_eq_true rfl, Nat.le_of_ble_eq_true rfl⟩) dL_add_5 (by rfl) ?_
  unfold qwp
  rw [hx]
  cases r with
  | error e => exact her e rfl
  | ok v =>
    show GG k _ (.int v :: .int (I 0) :: .ref (sv + 62) :: []) m1 _ _ _
    refine g_i2l X dL_add_8 ?_
    refine g_last (q := sv + 62) (n := 1) X h62' (by intro q; rcases q with q | q <;> exact absurd q (by decide)) dL_add_9 ?_
    rw [show (I 0).toNatClampNeg = 0 from by decide]
    refine g_goto (tgt := 25) X dL_add_10 (by decide) ?_
    refine g_iconst (v := I 0) X dL_add_25 rfl ?_
    exact h_iret X C hr rfl dL_add_26 (by rw [hR]; exact Nat.le_of_ble_eq_true rfl) (by rw [hR]; exact Nat.le_of_ble_eq_true rfl) ((hok v rfl).2)
theorem dL_move_0 : decode cL_move 0 = .ok (.aload 4, 2) := by decide +kernel
theorem dL_move_2 : decode cL_move 2 = .ok (.iconst 0, 1) := by decide +kernel
theorem dL_move_3 : decode cL_move 3 = .ok (.aload_n 0, 1) := by decide +kernel
theorem dL_move_4 : decode cL_move 4 = .ok (.iload_n 1, 1) := by decide +kernel
theorem dL_move_5 : decode cL_move 5 = .ok (.iload_n 2, 1) := by decide +kernel
theorem dL_move_6 : decode cL_move 6 = .ok (.iload_n 3, 1) := by decide +kernel
theorem dL_move_7 : decode cL_move 7 = .ok (.invokevirtual 46, 3) := by decide +kernel
theorem dL_move_10 : decode cL_move 10 = .ok (.i2l, 1) := by decide +kernel
theorem dL_move_11 : decode cL_move 11 = .ok (.lastore, 1) := by decide +kernel
theorem dL_move_12 : decode cL_move 12 = .ok (.goto 15, 3) := by decide +kernel
theorem dL_move_15 : decode cL_move 15 = .ok (.astore 5, 2) := by decide +kernel
theorem dL_move_17 : decode cL_move 17 = .ok (.iconst 1, 1) := by decide +kernel
theorem dL_move_18 : decode cL_move 18 = .ok (.ireturn, 1) := by decide +kernel
theorem dL_move_19 : decode cL_move 19 = .ok (.astore 5, 2) := by decide +kernel
theorem dL_move_21 : decode cL_move 21 = .ok (.iconst 2, 1) := by decide +kernel
theorem dL_move_22 : decode cL_move 22 = .ok (.ireturn, 1) := by decide +kernel
theorem dL_move_23 : decode cL_move 23 = .ok (.astore 5, 2) := by decide +kernel
theorem dL_move_25 : decode cL_move 25 = .ok (.iconst 3, 1) := by decide +kernel
theorem dL_move_26 : decode cL_move 26 = .ok (.ireturn, 1) := by decide +kernel
theorem dL_move_27 : decode cL_move 27 = .ok (.iconst 0, 1) := by decide +kernel
theorem dL_move_28 : decode cL_move 28 = .ok (.ireturn, 1) := by decide +kernel
theorem lkh_move : LKH yL_move cL_move 6 (some .int) [(0, 12, 15, 13), (0, 12, 19, 15), (0, 12, 23, 31)] 5 := ⟨(qW_at 598 (by decide +kernel) rfl), (qW_at 74 (by decide +kernel) rfl), by decide, by decide, by decide +kernel⟩
theorem stl_move : Cond.static yL_move ∈ qW := (qW_at 597 (by decide +kernel) rfl)
set_option maxRecDepth 100000 in
set_option maxHeartbeats 1600000 in
theorem E_L_move (sv : Nat) (p0 p1 p2 : Int32) : MEH yL_move cL_move 6 (some .int) [(0, 12, 15, 13), (0, 12, 19, 15), (0, 12, 23, 31)] 10 167 7 161 (fun DA => [.ref sv, .int p0, .int p1, .int p2, .ref (sv + 62)]) (fun DA mm R => qty mm sv = (1, 7, 0) ∧ qty mm (sv + 62) = (3, 0, 1) ∧ ∃ r m1, F_X6_move sv p0 p1 p2 mm = some (r, m1) ∧ KP sv mm m1 ∧ (∀ v, r = .ok v → True ∧ R (.ok (some (.int (I 0)))) (sal m1 (sv + 62) 0 v.toInt64)) ∧ (∀ e0, r = .error e0 → ∃ cd, mpA e0 = some cd ∧ ∀ n, qtop m1 ≤ n → R (.ok (some (.int (I cd)))) (stop m1 n))) := by
  refine MEH_of (env0 := fun DA => [(0, .ref sv), (1, .int p0), (2, .int p1), (3, .int p2), (4, .ref (sv + 62))]) (by decide) (fun DA => by exact Nat.le_of_ble_eq_true rfl) (fun DA => by rfl) (fun k mm R X C hR hN hr hname hP => ?_)
  have X : CX k cL_move RL := X
  have htr := C.2.2.2.1
  obtain ⟨h1, h62, r, m1, hx, hk, hok, her⟩ := hP
  let T9 : Nat → QM → Prop := fun e m' => ∃ cd, mpA e = some cd ∧ ∀ n, qtop m' ≤ n → R (.ok (some (.int (I cd)))) (stop m' n)
  have hTp : THp k 7 T9 := by
    intro e mm9 H locs ls rest ce q9 a9 b9 hT9 z9 hn9 hl9 hls9 hq9 hv9 hc9 ha9 hb9
    obtain ⟨cd, hcd, hR9⟩ := hT9
    unfold mpA at hcd
    by_cases e1 : e = 1
    · subst e1
      have hcd : some (1 : Int) = some cd := hcd
      cases hcd
      refine t_catch (e := 1) (hh := [(0, 12, 15, 13), (0, 12, 19, 15), (0, 12, 23, 31)]) (pre := []) (suf := [(0, 12, 19, 15), (0, 12, 23, 31)]) X C.2.1 rfl (by decide) (by decide) (by decide) (qW_at 195 (by decide +kernel) rfl) (qN_at 207 (by decide +kernel) rfl) (fun z hz => absurd hz List.not_mem_nil) (fun q n a b hn ha hb => ?_) H locs ls rest ce q9 a9 b9 z9 hn9 hl9 hls9 hq9 hv9 hc9 ha9 hb9
      refine g_astore (r := some q) (env' := [(5, .ref q)]) X dL_move_15 (by rw [hN]; decide) rfl ?_
      refine g_iconst (v := I 1) X dL_move_17 rfl ?_
      exact h_iret X C hr rfl dL_move_18 ha hb (hR9 n hn)
    · rw [if_neg e1] at hcd
      by_cases e2 : e = 2
      · subst e2
        have hcd : some (2 : Int) = some cd := hcd
        cases hcd
        refine t_catch (e := 2) (hh := [(0, 12, 15, 13), (0, 12, 19, 15), (0, 12, 23, 31)]) (pre := [(0, 12, 15, 13)]) (suf := [(0, 12, 23, 31)]) X C.2.1 rfl (by decide) (by decide) (by decide) (qW_at 196 (by decide +kernel) rfl) (qN_at 276 (by decide +kernel) rfl) (fun z hz => by
          simp only [List.mem_cons, List.mem_nil_iff, or_false] at hz
          rcases hz with rfl
          · exact ⟨by decide, 1, by decide, by decide, (qW_at 195 (by decide +kernel) rfl)⟩) (fun q n a b hn ha hb => ?_) H locs ls rest ce q9 a9 b9 z9 hn9 hl9 hls9 hq9 hv9 hc9 ha9 hb9
        refine g_astore (r := some q) (env' := [(5, .ref q)]) X dL_move_19 (by rw [hN]; decide) rfl ?_
        refine g_iconst (v := I 2) X dL_move_21 rfl ?_
        exact h_iret X C hr rfl dL_move_22 ha hb (hR9 n hn)
      · rw [if_neg e2] at hcd
        by_cases e3 : e = 3
        · subst e3
          have hcd : some (3 : Int) = some cd := hcd
          cases hcd
          refine t_catch (e := 3) (hh := [(0, 12, 15, 13), (0, 12, 19, 15), (0, 12, 23, 31)]) (pre := [(0, 12, 15, 13), (0, 12, 19, 15)]) (suf := []) X C.2.1 rfl (by decide) (by decide) (by decide) (qW_at 334 (by decide +kernel) rfl) (qN_at 350 (by decide +kernel) rfl) (fun z hz => by
            simp only [List.mem_cons, List.mem_nil_iff, or_false] at hz
            rcases hz with rfl | rfl
            · exact ⟨by decide, 1, by decide, by decide, (qW_at 195 (by decide +kernel) rfl)⟩
            · exact ⟨by decide, 2, by decide, by decide, (qW_at 196 (by decide +kernel) rfl)⟩) (fun q n a b hn ha hb => ?_) H locs ls rest ce q9 a9 b9 z9 hn9 hl9 hls9 hq9 hv9 hc9 ha9 hb9
          refine g_astore (r := some q) (env' := [(5, .ref q)]) X dL_move_23 (by rw [hN]; decide) rfl ?_
          refine g_iconst (v := I 3) X dL_move_25 rfl ?_
          exact h_iret X C hr rfl dL_move_26 ha hb (hR9 n hn)
        · rw [if_neg e3] at hcd
          exact absurd hcd (by simp)
  have h62' := hk.ty62 h62
  refine g_aload (r := some (sv + 62)) 4 X dL_move_0 rfl ?_
  refine g_iconst (v := I 0) X dL_move_2 rfl ?_
  refine t_al 0 X dL_move_3 rfl rfl ?_
  refine g_iload_n 1 X dL_move_4 rfl rfl ?_
  refine g_iload_n 2 X dL_move_5 rfl rfl ?_
  refine g_iload_n 3 X dL_move_6 rfl rfl ?_
  refine p_callV (st := [.int (I 0), .ref (sv + 62)]) (q := sv) (av := [.int p0, .int p1, .int p2]) (T := T9) X hTp htr rfl h1 (M_X6_move sv p0 p1 p2) lk_X6_move im_X6_move se_X6_move (qW_at 599 (by decide +kernel) rfl) rfl (by rw [hR]; exact ⟨Nat.le_of_ble_eq_true rfl, Nat.le_of_ble_eq_true rfl⟩) (by exact Nat.le_of_ble_eq_true rfl) (by rw [hR]; exact ⟨Nat.le_of_ble_eq_true rfl, Nat.le_of_ble_eq_true rfl⟩) dL_move_7 (by rfl) ?_
  unfold qwp
  rw [hx]
  cases r with
  | error e => exact her e rfl
  | ok v =>
    show GG k _ (.int v :: .int (I 0) :: .ref (sv + 62) :: []) m1 _ _ _
    refine g_i2l X dL_move_10 ?_
    refine g_last (q := sv + 62) (n := 1) X h62' (by intro q; rcases q with q | q <;> exact absurd q (by decide)) dL_move_11 ?_
    rw [show (I 0).toNatClampNeg = 0 from by decide]
    refine g_goto (tgt := 27) X dL_move_12 (by decide) ?_
    refine g_iconst (v := I 0) X dL_move_27 rfl ?_
    exact h_iret X C hr rfl dL_move_28 (by rw [hR]; exact Nat.le_of_ble_eq_true rfl) (by rw [hR]; exact Nat.le_of_ble_eq_true rfl) ((hok v rfl).2)
theorem dL_invite_0 : decode cL_invite 0 = .ok (.aload 4, 2) := by decide +kernel
theorem dL_invite_2 : decode cL_invite 2 = .ok (.iconst 0, 1) := by decide +kernel
theorem dL_invite_3 : decode cL_invite 3 = .ok (.aload_n 0, 1) := by decide +kernel
theorem dL_invite_4 : decode cL_invite 4 = .ok (.iload_n 1, 1) := by decide +kernel
theorem dL_invite_5 : decode cL_invite 5 = .ok (.iload_n 2, 1) := by decide +kernel
theorem dL_invite_6 : decode cL_invite 6 = .ok (.iload_n 3, 1) := by decide +kernel
theorem dL_invite_7 : decode cL_invite 7 = .ok (.invokevirtual 49, 3) := by decide +kernel
theorem dL_invite_10 : decode cL_invite 10 = .ok (.i2l, 1) := by decide +kernel
theorem dL_invite_11 : decode cL_invite 11 = .ok (.lastore, 1) := by decide +kernel
theorem dL_invite_12 : decode cL_invite 12 = .ok (.goto 15, 3) := by decide +kernel
theorem dL_invite_15 : decode cL_invite 15 = .ok (.astore 5, 2) := by decide +kernel
theorem dL_invite_17 : decode cL_invite 17 = .ok (.iconst 1, 1) := by decide +kernel
theorem dL_invite_18 : decode cL_invite 18 = .ok (.ireturn, 1) := by decide +kernel
theorem dL_invite_19 : decode cL_invite 19 = .ok (.astore 5, 2) := by decide +kernel
theorem dL_invite_21 : decode cL_invite 21 = .ok (.iconst 2, 1) := by decide +kernel
theorem dL_invite_22 : decode cL_invite 22 = .ok (.ireturn, 1) := by decide +kernel
theorem dL_invite_23 : decode cL_invite 23 = .ok (.astore 5, 2) := by decide +kernel
theorem dL_invite_25 : decode cL_invite 25 = .ok (.iconst 3, 1) := by decide +kernel
theorem dL_invite_26 : decode cL_invite 26 = .ok (.ireturn, 1) := by decide +kernel
theorem dL_invite_27 : decode cL_invite 27 = .ok (.iconst 0, 1) := by decide +kernel
theorem dL_invite_28 : decode cL_invite 28 = .ok (.ireturn, 1) := by decide +kernel
theorem lkh_invite : LKH yL_invite cL_invite 6 (some .int) [(0, 12, 15, 13), (0, 12, 19, 15), (0, 12, 23, 31)] 5 := ⟨(qW_at 612 (by decide +kernel) rfl), (qW_at 74 (by decide +kernel) rfl), by decide, by decide, by decide +kernel⟩
theorem stl_invite : Cond.static yL_invite ∈ qW := (qW_at 611 (by decide +kernel) rfl)
set_option maxRecDepth 100000 in
set_option maxHeartbeats 1600000 in
theorem E_L_invite (sv : Nat) (p0 p1 p2 : Int32) : MEH yL_invite cL_invite 6 (some .int) [(0, 12, 15, 13), (0, 12, 19, 15), (0, 12, 23, 31)] 8 127 5 41 (fun DA => [.ref sv, .int p0, .int p1, .int p2, .ref (sv + 62)]) (fun DA mm R => qty mm sv = (1, 7, 0) ∧ qty mm (sv + 62) = (3, 0, 1) ∧ ∃ r m1, F_X6_invite sv p0 p1 p2 mm = some (r, m1) ∧ KP sv mm m1 ∧ (∀ v, r = .ok v → True ∧ R (.ok (some (.int (I 0)))) (sal m1 (sv + 62) 0 v.toInt64)) ∧ (∀ e0, r = .error e0 → ∃ cd, mpA e0 = some cd ∧ ∀ n, qtop m1 ≤ n → R (.ok (some (.int (I cd)))) (stop m1 n))) := by
  refine MEH_of (env0 := fun DA => [(0, .ref sv), (1, .int p0), (2, .int p1), (3, .int p2), (4, .ref (sv + 62))]) (by decide) (fun DA => by exact Nat.le_of_ble_eq_true rfl) (fun DA => by rfl) (fun k mm R X C hR hN hr hname hP => ?_)
  have X : CX k cL_invite RL := X
  have htr := C.2.2.2.1
  obtain ⟨h1, h62, r, m1, hx, hk, hok, her⟩ := hP
  let T9 : Nat → QM → Prop := fun e m' => ∃ cd, mpA e = some cd ∧ ∀ n, qtop m' ≤ n → R (.ok (some (.int (I cd)))) (stop m' n)
  have hTp : THp k 7 T9 := by
    intro e mm9 H locs ls rest ce q9 a9 b9 hT9 z9 hn9 hl9 hls9 hq9 hv9 hc9 ha9 hb9
    obtain ⟨cd, hcd, hR9⟩ := hT9
    unfold mpA at hcd
    by_cases e1 : e = 1
    · subst e1
      have hcd : some (1 : Int) = some cd := hcd
      cases hcd
      refine t_catch (e := 1) (hh := [(0, 12, 15, 13), (0, 12, 19, 15), (0, 12, 23, 31)]) (pre := []) (suf := [(0, 12, 19, 15), (0, 12, 23, 31)]) X C.2.1 rfl (by decide) (by decide) (by decide) (qW_at 195 (by decide +kernel) rfl) (qN_at 207 (by decide +kernel) rfl) (fun z hz => absurd hz List.not_mem_nil) (fun q n a b hn ha hb => ?_) H locs ls rest ce q9 a9 b9 z9 hn9 hl9 hls9 hq9 hv9 hc9 ha9 hb9
      refine g_astore (r := some q) (env' := [(5, .ref q)]) X dL_invite_15 (by rw [hN]; decide) rfl ?_
      refine g_iconst (v := I 1) X dL_invite_17 rfl ?_
      exact h_iret X C hr rfl dL_invite_18 ha hb (hR9 n hn)
    · rw [if_neg e1] at hcd
      by_cases e2 : e = 2
      · subst e2
        have hcd : some (2 : Int) = some cd := hcd
        cases hcd
        refine t_catch (e := 2) (hh := [(0, 12, 15, 13), (0, 12, 19, 15), (0, 12, 23, 31)]) (pre := [(0, 12, 15, 13)]) (suf := [(0, 12, 23, 31)]) X C.2.1 rfl (by decide) (by decide) (by decide) (qW_at 196 (by decide +kernel) rfl) (qN_at 276 (by decide +kernel) rfl) (fun z hz => by
          simp only [List.mem_cons, List.mem_nil_iff, or_false] at hz
          rcases hz with rfl
          · exact ⟨by decide, 1, by decide, by decide, (qW_at 195 (by decide +kernel) rfl)⟩) (fun q n a b hn ha hb => ?_) H locs ls rest ce q9 a9 b9 z9 hn9 hl9 hls9 hq9 hv9 hc9 ha9 hb9
        refine g_astore (r := some q) (env' := [(5, .ref q)]) X dL_invite_19 (by rw [hN]; decide) rfl ?_
        refine g_iconst (v := I 2) X dL_invite_21 rfl ?_
        exact h_iret X C hr rfl dL_invite_22 ha hb (hR9 n hn)
      · rw [if_neg e2] at hcd
        by_cases e3 : e = 3
        · subst e3
          have hcd : some (3 : Int) = some cd := hcd
          cases hcd
          refine t_catch (e := 3) (hh := [(0, 12, 15, 13), (0, 12, 19, 15), (0, 12, 23, 31)]) (pre := [(0, 12, 15, 13), (0, 12, 19, 15)]) (suf := []) X C.2.1 rfl (by decide) (by decide) (by decide) (qW_at 334 (by decide +kernel) rfl) (qN_at 350 (by decide +kernel) rfl) (fun z hz => by
            simp only [List.mem_cons, List.mem_nil_iff, or_false] at hz
            rcases hz with rfl | rfl
            · exact ⟨by decide, 1, by decide, by decide, (qW_at 195 (by decide +kernel) rfl)⟩
            · exact ⟨by decide, 2, by decide, by decide, (qW_at 196 (by decide +kernel) rfl)⟩) (fun q n a b hn ha hb => ?_) H locs ls rest ce q9 a9 b9 z9 hn9 hl9 hls9 hq9 hv9 hc9 ha9 hb9
          refine g_astore (r := some q) (env' := [(5, .ref q)]) X dL_invite_23 (by rw [hN]; decide) rfl ?_
          refine g_iconst (v := I 3) X dL_invite_25 rfl ?_
          exact h_iret X C hr rfl dL_invite_26 ha hb (hR9 n hn)
        · rw [if_neg e3] at hcd
          exact absurd hcd (by simp)
  have h62' := hk.ty62 h62
  refine g_aload (r := some (sv + 62)) 4 X dL_invite_0 rfl ?_
  refine g_iconst (v := I 0) X dL_invite_2 rfl ?_
  refine t_al 0 X dL_invite_3 rfl rfl ?_
  refine g_iload_n 1 X dL_invite_4 rfl rfl ?_
  refine g_iload_n 2 X dL_invite_5 rfl rfl ?_
  refine g_iload_n 3 X dL_invite_6 rfl rfl ?_
  refine p_callV (st := [.int (I 0), .ref (sv + 62)]) (q := sv) (av := [.int p0, .int p1, .int p2]) (T := T9) X hTp htr rfl h1 (M_X6_invite sv p0 p1 p2) lk_X6_invite im_X6_invite se_X6_invite (qW_at 613 (by decide +kernel) rfl) rfl (by rw [hR]; exact ⟨Nat.le_of_ble_eq_true rfl, Nat.le_of_ble_eq_true rfl⟩) (by exact Nat.le_of_ble_eq_true rfl) (by rw [hR]; exact ⟨Nat.le_of_ble_eq_true rfl, Nat.le_of_ble_eq_true rfl⟩) dL_invite_7 (by rfl) ?_
  unfold qwp
  rw [hx]
  cases r with
  | error e => exact her e rfl
  | ok v =>
    show GG k _ (.int v :: .int (I 0) :: .ref (sv + 62) :: []) m1 _ _ _
    refine g_i2l X dL_invite_10 ?_
    refine g_last (q := sv + 62) (n := 1) X h62' (by intro q; rcases q with q | q <;> exact absurd q (by decide)) dL_invite_11 ?_
    rw [show (I 0).toNatClampNeg = 0 from by decide]
    refine g_goto (tgt := 27) X dL_invite_12 (by decide) ?_
    refine g_iconst (v := I 0) X dL_invite_27 rfl ?_
    exact h_iret X C hr rfl dL_invite_28 (by rw [hR]; exact Nat.le_of_ble_eq_true rfl) (by rw [hR]; exact Nat.le_of_ble_eq_true rfl) ((hok v rfl).2)
theorem dL_cancel_0 : decode cL_cancel 0 = .ok (.aload_n 2, 1) := by decide +kernel
theorem dL_cancel_1 : decode cL_cancel 1 = .ok (.iconst 0, 1) := by decide +kernel
theorem dL_cancel_2 : decode cL_cancel 2 = .ok (.aload_n 0, 1) := by decide +kernel
theorem dL_cancel_3 : decode cL_cancel 3 = .ok (.iload_n 1, 1) := by decide +kernel
theorem dL_cancel_4 : decode cL_cancel 4 = .ok (.invokevirtual 53, 3) := by decide +kernel
theorem dL_cancel_7 : decode cL_cancel 7 = .ok (.i2l, 1) := by decide +kernel
theorem dL_cancel_8 : decode cL_cancel 8 = .ok (.lastore, 1) := by decide +kernel
theorem dL_cancel_9 : decode cL_cancel 9 = .ok (.goto 9, 3) := by decide +kernel
theorem dL_cancel_12 : decode cL_cancel 12 = .ok (.astore_n 3, 1) := by decide +kernel
theorem dL_cancel_13 : decode cL_cancel 13 = .ok (.iconst 1, 1) := by decide +kernel
theorem dL_cancel_14 : decode cL_cancel 14 = .ok (.ireturn, 1) := by decide +kernel
theorem dL_cancel_15 : decode cL_cancel 15 = .ok (.astore_n 3, 1) := by decide +kernel
theorem dL_cancel_16 : decode cL_cancel 16 = .ok (.iconst 2, 1) := by decide +kernel
theorem dL_cancel_17 : decode cL_cancel 17 = .ok (.ireturn, 1) := by decide +kernel
theorem dL_cancel_18 : decode cL_cancel 18 = .ok (.iconst 0, 1) := by decide +kernel
theorem dL_cancel_19 : decode cL_cancel 19 = .ok (.ireturn, 1) := by decide +kernel
theorem lkh_cancel : LKH yL_cancel cL_cancel 4 (some .int) [(0, 9, 12, 13), (0, 9, 15, 31)] 3 := ⟨(qW_at 628 (by decide +kernel) rfl), (qW_at 74 (by decide +kernel) rfl), by decide, by decide, by decide +kernel⟩
theorem stl_cancel : Cond.static yL_cancel ∈ qW := (qW_at 627 (by decide +kernel) rfl)
set_option maxRecDepth 100000 in
set_option maxHeartbeats 1600000 in
theorem E_L_cancel (sv : Nat) (p0 : Int32) : MEH yL_cancel cL_cancel 4 (some .int) [(0, 9, 12, 13), (0, 9, 15, 31)] 8 124 3 29 (fun DA => [.ref sv, .int p0, .ref (sv + 62)]) (fun DA mm R => qty mm sv = (1, 7, 0) ∧ qty mm (sv + 62) = (3, 0, 1) ∧ ∃ r m1, F_X6_cancel sv p0 mm = some (r, m1) ∧ KP sv mm m1 ∧ (∀ v, r = .ok v → True ∧ R (.ok (some (.int (I 0)))) (sal m1 (sv + 62) 0 v.toInt64)) ∧ (∀ e0, r = .error e0 → ∃ cd, mpC e0 = some cd ∧ ∀ n, qtop m1 ≤ n → R (.ok (some (.int (I cd)))) (stop m1 n))) := by
  refine MEH_of (env0 := fun DA => [(0, .ref sv), (1, .int p0), (2, .ref (sv + 62))]) (by decide) (fun DA => by exact Nat.le_of_ble_eq_true rfl) (fun DA => by rfl) (fun k mm R X C hR hN hr hname hP => ?_)
  have X : CX k cL_cancel RL := X
  have htr := C.2.2.2.1
  obtain ⟨h1, h62, r, m1, hx, hk, hok, her⟩ := hP
  let T9 : Nat → QM → Prop := fun e m' => ∃ cd, mpC e = some cd ∧ ∀ n, qtop m' ≤ n → R (.ok (some (.int (I cd)))) (stop m' n)
  have hTp : THp k 4 T9 := by
    intro e mm9 H locs ls rest ce q9 a9 b9 hT9 z9 hn9 hl9 hls9 hq9 hv9 hc9 ha9 hb9
    obtain ⟨cd, hcd, hR9⟩ := hT9
    unfold mpC at hcd
    by_cases e1 : e = 1
    · subst e1
      have hcd : some (1 : Int) = some cd := hcd
      cases hcd
      refine t_catch (e := 1) (hh := [(0, 9, 12, 13), (0, 9, 15, 31)]) (pre := []) (suf := [(0, 9, 15, 31)]) X C.2.1 rfl (by decide) (by decide) (by decide) (qW_at 195 (by decide +kernel) rfl) (qN_at 207 (by decide +kernel) rfl) (fun z hz => absurd hz List.not_mem_nil) (fun q n a b hn ha hb => ?_) H locs ls rest ce q9 a9 b9 z9 hn9 hl9 hls9 hq9 hv9 hc9 ha9 hb9
      refine t_as (env' := [(3, .ref q)]) X dL_cancel_12 rfl (by rw [hN]; decide) rfl ?_
      refine g_iconst (v := I 1) X dL_cancel_13 rfl ?_
      exact h_iret X C hr rfl dL_cancel_14 ha hb (hR9 n hn)
    · rw [if_neg e1] at hcd
      by_cases e3 : e = 3
      · subst e3
        have hcd : some (2 : Int) = some cd := hcd
        cases hcd
        refine t_catch (e := 3) (hh := [(0, 9, 12, 13), (0, 9, 15, 31)]) (pre := [(0, 9, 12, 13)]) (suf := []) X C.2.1 rfl (by decide) (by decide) (by decide) (qW_at 334 (by decide +kernel) rfl) (qN_at 350 (by decide +kernel) rfl) (fun z hz => by
          simp only [List.mem_cons, List.mem_nil_iff, or_false] at hz
          rcases hz with rfl
          · exact ⟨by decide, 1, by decide, by decide, (qW_at 195 (by decide +kernel) rfl)⟩) (fun q n a b hn ha hb => ?_) H locs ls rest ce q9 a9 b9 z9 hn9 hl9 hls9 hq9 hv9 hc9 ha9 hb9
        refine t_as (env' := [(3, .ref q)]) X dL_cancel_15 rfl (by rw [hN]; decide) rfl ?_
        refine g_iconst (v := I 2) X dL_cancel_16 rfl ?_
        exact h_iret X C hr rfl dL_cancel_17 ha hb (hR9 n hn)
      · rw [if_neg e3] at hcd
        exact absurd hcd (by simp)
  have h62' := hk.ty62 h62
  refine t_al 2 X dL_cancel_0 rfl rfl ?_
  refine g_iconst (v := I 0) X dL_cancel_1 rfl ?_
  refine t_al 0 X dL_cancel_2 rfl rfl ?_
  refine g_iload_n 1 X dL_cancel_3 rfl rfl ?_
  refine p_callV (st := [.int (I 0), .ref (sv + 62)]) (q := sv) (av := [.int p0]) (T := T9) X hTp htr rfl h1 (M_X6_cancel sv p0) lk_X6_cancel im_X6_cancel se_X6_cancel (qW_at 629 (by decide +kernel) rfl) rfl (by rw [hR]; exact ⟨Nat.le_of_ble_eq_true rfl, Nat.le_of_ble_eq_true rfl⟩) (by exact Nat.le_of_ble_eq_true rfl) (by rw [hR]; exact ⟨Nat.le_of_ble_eq_true rfl, Nat.le_of_ble_eq_true rfl⟩) dL_cancel_4 (by rfl) ?_
  unfold qwp
  rw [hx]
  cases r with
  | error e => exact her e rfl
  | ok v =>
    show GG k _ (.int v :: .int (I 0) :: .ref (sv + 62) :: []) m1 _ _ _
    refine g_i2l X dL_cancel_7 ?_
    refine g_last (q := sv + 62) (n := 1) X h62' (by intro q; rcases q with q | q <;> exact absurd q (by decide)) dL_cancel_8 ?_
    rw [show (I 0).toNatClampNeg = 0 from by decide]
    refine g_goto (tgt := 18) X dL_cancel_9 (by decide) ?_
    refine g_iconst (v := I 0) X dL_cancel_18 rfl ?_
    exact h_iret X C hr rfl dL_cancel_19 (by rw [hR]; exact Nat.le_of_ble_eq_true rfl) (by rw [hR]; exact Nat.le_of_ble_eq_true rfl) ((hok v rfl).2)
theorem dL_send_0 : decode cL_send 0 = .ok (.aload_n 2, 1) := by decide +kernel
theorem dL_send_1 : decode cL_send 1 = .ok (.iconst 0, 1) := by decide +kernel
theorem dL_send_2 : decode cL_send 2 = .ok (.aload_n 0, 1) := by decide +kernel
theorem dL_send_3 : decode cL_send 3 = .ok (.iload_n 1, 1) := by decide +kernel
theorem dL_send_4 : decode cL_send 4 = .ok (.invokevirtual 57, 3) := by decide +kernel
theorem dL_send_7 : decode cL_send 7 = .ok (.i2l, 1) := by decide +kernel
theorem dL_send_8 : decode cL_send 8 = .ok (.lastore, 1) := by decide +kernel
theorem dL_send_9 : decode cL_send 9 = .ok (.goto 9, 3) := by decide +kernel
theorem dL_send_12 : decode cL_send 12 = .ok (.astore_n 3, 1) := by decide +kernel
theorem dL_send_13 : decode cL_send 13 = .ok (.iconst 1, 1) := by decide +kernel
theorem dL_send_14 : decode cL_send 14 = .ok (.ireturn, 1) := by decide +kernel
theorem dL_send_15 : decode cL_send 15 = .ok (.astore_n 3, 1) := by decide +kernel
theorem dL_send_16 : decode cL_send 16 = .ok (.iconst 2, 1) := by decide +kernel
theorem dL_send_17 : decode cL_send 17 = .ok (.ireturn, 1) := by decide +kernel
theorem dL_send_18 : decode cL_send 18 = .ok (.iconst 0, 1) := by decide +kernel
theorem dL_send_19 : decode cL_send 19 = .ok (.ireturn, 1) := by decide +kernel
theorem lkh_send : LKH yL_send cL_send 4 (some .int) [(0, 9, 12, 13), (0, 9, 15, 31)] 3 := ⟨(qW_at 639 (by decide +kernel) rfl), (qW_at 74 (by decide +kernel) rfl), by decide, by decide, by decide +kernel⟩
theorem stl_send : Cond.static yL_send ∈ qW := (qW_at 638 (by decide +kernel) rfl)
set_option maxRecDepth 100000 in
set_option maxHeartbeats 1600000 in
theorem E_L_send (sv : Nat) (p0 : Int32) : MEH yL_send cL_send 4 (some .int) [(0, 9, 12, 13), (0, 9, 15, 31)] 9 147 8 84 (fun DA => [.ref sv, .int p0, .ref (sv + 62)]) (fun DA mm R => qty mm sv = (1, 7, 0) ∧ qty mm (sv + 62) = (3, 0, 1) ∧ ∃ r m1, F_X6_send sv p0 mm = some (r, m1) ∧ KP sv mm m1 ∧ (∀ v, r = .ok v → True ∧ R (.ok (some (.int (I 0)))) (sal m1 (sv + 62) 0 v.toInt64)) ∧ (∀ e0, r = .error e0 → ∃ cd, mpC e0 = some cd ∧ ∀ n, qtop m1 ≤ n → R (.ok (some (.int (I cd)))) (stop m1 n))) := by
  refine MEH_of (env0 := fun DA => [(0, .ref sv), (1, .int p0), (2, .ref (sv + 62))]) (by decide) (fun DA => by exact Nat.le_of_ble_eq_true rfl) (fun DA => by rfl) (fun k mm R X C hR hN hr hname hP => ?_)
  have X : CX k cL_send RL := X
  have htr := C.2.2.2.1
  obtain ⟨h1, h62, r, m1, hx, hk, hok, her⟩ := hP
  let T9 : Nat → QM → Prop := fun e m' => ∃ cd, mpC e = some cd ∧ ∀ n, qtop m' ≤ n → R (.ok (some (.int (I cd)))) (stop m' n)
  have hTp : THp k 4 T9 := by
    intro e mm9 H locs ls rest ce q9 a9 b9 hT9 z9 hn9 hl9 hls9 hq9 hv9 hc9 ha9 hb9
    obtain ⟨cd, hcd, hR9⟩ := hT9
    unfold mpC at hcd
    by_cases e1 : e = 1
    · subst e1
      have hcd : some (1 : Int) = some cd := hcd
      cases hcd
      refine t_catch (e := 1) (hh := [(0, 9, 12, 13), (0, 9, 15, 31)]) (pre := []) (suf := [(0, 9, 15, 31)]) X C.2.1 rfl (by decide) (by decide) (by decide) (qW_at 195 (by decide +kernel) rfl) (qN_at 207 (by decide +kernel) rfl) (fun z hz => absurd hz List.not_mem_nil) (fun q n a b hn ha hb => ?_) H locs ls rest ce q9 a9 b9 z9 hn9 hl9 hls9 hq9 hv9 hc9 ha9 hb9
      refine t_as (env' := [(3, .ref q)]) X dL_send_12 rfl (by rw [hN]; decide) rfl ?_
      refine g_iconst (v := I 1) X dL_send_13 rfl ?_
      exact h_iret X C hr rfl dL_send_14 ha hb (hR9 n hn)
    · rw [if_neg e1] at hcd
      by_cases e3 : e = 3
      · subst e3
        have hcd : some (2 : Int) = some cd := hcd
        cases hcd
        refine t_catch (e := 3) (hh := [(0, 9, 12, 13), (0, 9, 15, 31)]) (pre := [(0, 9, 12, 13)]) (suf := []) X C.2.1 rfl (by decide) (by decide) (by decide) (qW_at 334 (by decide +kernel) rfl) (qN_at 350 (by decide +kernel) rfl) (fun z hz => by
          simp only [List.mem_cons, List.mem_nil_iff, or_false] at hz
          rcases hz with rfl
          · exact ⟨by decide, 1, by decide, by decide, (qW_at 195 (by decide +kernel) rfl)⟩) (fun q n a b hn ha hb => ?_) H locs ls rest ce q9 a9 b9 z9 hn9 hl9 hls9 hq9 hv9 hc9 ha9 hb9
        refine t_as (env' := [(3, .ref q)]) X dL_send_15 rfl (by rw [hN]; decide) rfl ?_
        refine g_iconst (v := I 2) X dL_send_16 rfl ?_
        exact h_iret X C hr rfl dL_send_17 ha hb (hR9 n hn)
      · rw [if_neg e3] at hcd
        exact absurd hcd (by simp)
  have h62' := hk.ty62 h62
  refine t_al 2 X dL_send_0 rfl rfl ?_
  refine g_iconst (v := I 0) X dL_send_1 rfl ?_
  refine t_al 0 X dL_send_2 rfl rfl ?_
  refine g_iload_n 1 X dL_send_3 rfl rfl ?_
  refine p_callV (st := [.int (I 0), .ref (sv + 62)]) (q := sv) (av := [.int p0]) (T := T9) X hTp htr rfl h1 (M_X6_send sv p0) lk_X6_send im_X6_send se_X6_send (qW_at 640 (by decide +kernel) rfl) rfl (by rw [hR]; exact ⟨Nat.le_of_ble_eq_true rfl, Nat.le_of_ble_eq_true rfl⟩) (by exact Nat.le_of_ble_eq_true rfl) (by rw [hR]; exact ⟨Nat.le_of_ble_eq_true rfl, Nat.le_of_ble_eq_true rfl⟩) dL_send_4 (by rfl) ?_
  unfold qwp
  rw [hx]
  cases r with
  | error e => exact her e rfl
  | ok v =>
    show GG k _ (.int v :: .int (I 0) :: .ref (sv + 62) :: []) m1 _ _ _
    refine g_i2l X dL_send_7 ?_
    refine g_last (q := sv + 62) (n := 1) X h62' (by intro q; rcases q with q | q <;> exact absurd q (by decide)) dL_send_8 ?_
    rw [show (I 0).toNatClampNeg = 0 from by decide]
    refine g_goto (tgt := 18) X dL_send_9 (by decide) ?_
    refine g_iconst (v := I 0) X dL_send_18 rfl ?_
    exact h_iret X C hr rfl dL_send_19 (by rw [hR]; exact Nat.le_of_ble_eq_true rfl) (by rw [hR]; exact Nat.le_of_ble_eq_true rfl) ((hok v rfl).2)
theorem dL_take_0 : decode cL_take 0 = .ok (.aload_n 2, 1) := by decide +kernel
theorem dL_take_1 : decode cL_take 1 = .ok (.iconst 0, 1) := by decide +kernel
theorem dL_take_2 : decode cL_take 2 = .ok (.aload_n 0, 1) := by decide +kernel
theorem dL_take_3 : decode cL_take 3 = .ok (.iload_n 1, 1) := by decide +kernel
theorem dL_take_4 : decode cL_take 4 = .ok (.invokevirtual 60, 3) := by decide +kernel
theorem dL_take_7 : decode cL_take 7 = .ok (.i2l, 1) := by decide +kernel
theorem dL_take_8 : decode cL_take 8 = .ok (.lastore, 1) := by decide +kernel
theorem dL_take_9 : decode cL_take 9 = .ok (.goto 9, 3) := by decide +kernel
theorem dL_take_12 : decode cL_take 12 = .ok (.astore_n 3, 1) := by decide +kernel
theorem dL_take_13 : decode cL_take 13 = .ok (.iconst 1, 1) := by decide +kernel
theorem dL_take_14 : decode cL_take 14 = .ok (.ireturn, 1) := by decide +kernel
theorem dL_take_15 : decode cL_take 15 = .ok (.astore_n 3, 1) := by decide +kernel
theorem dL_take_16 : decode cL_take 16 = .ok (.iconst 2, 1) := by decide +kernel
theorem dL_take_17 : decode cL_take 17 = .ok (.ireturn, 1) := by decide +kernel
theorem dL_take_18 : decode cL_take 18 = .ok (.iconst 0, 1) := by decide +kernel
theorem dL_take_19 : decode cL_take 19 = .ok (.ireturn, 1) := by decide +kernel
theorem lkh_take : LKH yL_take cL_take 4 (some .int) [(0, 9, 12, 13), (0, 9, 15, 31)] 3 := ⟨(qW_at 736 (by decide +kernel) rfl), (qW_at 74 (by decide +kernel) rfl), by decide, by decide, by decide +kernel⟩
theorem stl_take : Cond.static yL_take ∈ qW := (qW_at 735 (by decide +kernel) rfl)
set_option maxRecDepth 100000 in
set_option maxHeartbeats 1600000 in
theorem E_L_take (sv : Nat) (p0 : Int32) : MEH yL_take cL_take 4 (some .int) [(0, 9, 12, 13), (0, 9, 15, 31)] 8 124 5 149 (fun DA => [.ref sv, .int p0, .ref (sv + 62)]) (fun DA mm R => qty mm sv = (1, 7, 0) ∧ qty mm (sv + 62) = (3, 0, 1) ∧ ∃ r m1, F_X6_take sv p0 mm = some (r, m1) ∧ KP sv mm m1 ∧ (∀ v, r = .ok v → True ∧ R (.ok (some (.int (I 0)))) (sal m1 (sv + 62) 0 v.toInt64)) ∧ (∀ e0, r = .error e0 → ∃ cd, mpC e0 = some cd ∧ ∀ n, qtop m1 ≤ n → R (.ok (some (.int (I cd)))) (stop m1 n))) := by
  refine MEH_of (env0 := fun DA => [(0, .ref sv), (1, .int p0), (2, .ref (sv + 62))]) (by decide) (fun DA => by exact Nat.le_of_ble_eq_true rfl) (fun DA => by rfl) (fun k mm R X C hR hN hr hname hP => ?_)
  have X : CX k cL_take RL := X
  have htr := C.2.2.2.1
  obtain ⟨h1, h62, r, m1, hx, hk, hok, her⟩ := hP
  let T9 : Nat → QM → Prop := fun e m' => ∃ cd, mpC e = some cd ∧ ∀ n, qtop m' ≤ n → R (.ok (some (.int (I cd)))) (stop m' n)
  have hTp : THp k 4 T9 := by
    intro e mm9 H locs ls rest ce q9 a9 b9 hT9 z9 hn9 hl9 hls9 hq9 hv9 hc9 ha9 hb9
    obtain ⟨cd, hcd, hR9⟩ := hT9
    unfold mpC at hcd
    by_cases e1 : e = 1
    · subst e1
      have hcd : some (1 : Int) = some cd := hcd
      cases hcd
      refine t_catch (e := 1) (hh := [(0, 9, 12, 13), (0, 9, 15, 31)]) (pre := []) (suf := [(0, 9, 15, 31)]) X C.2.1 rfl (by decide) (by decide) (by decide) (qW_at 195 (by decide +kernel) rfl) (qN_at 207 (by decide +kernel) rfl) (fun z hz => absurd hz List.not_mem_nil) (fun q n a b hn ha hb => ?_) H locs ls rest ce q9 a9 b9 z9 hn9 hl9 hls9 hq9 hv9 hc9 ha9 hb9
      refine t_as (env' := [(3, .ref q)]) X dL_take_12 rfl (by rw [hN]; decide) rfl ?_
      refine g_iconst (v := I 1) X dL_take_13 rfl ?_
      exact h_iret X C hr rfl dL_take_14 ha hb (hR9 n hn)
    · rw [if_neg e1] at hcd
      by_cases e3 : e = 3
      · subst e3
        have hcd : some (2 : Int) = some cd := hcd
        cases hcd
        refine t_catch (e := 3) (hh := [(0, 9, 12, 13), (0, 9, 15, 31)]) (pre := [(0, 9, 12, 13)]) (suf := []) X C.2.1 rfl (by decide) (by decide) (by decide) (qW_at 334 (by decide +kernel) rfl) (qN_at 350 (by decide +kernel) rfl) (fun z hz => by
          simp only [List.mem_cons, List.mem_nil_iff, or_false] at hz
          rcases hz with rfl
          · exact ⟨by decide, 1, by decide, by decide, (qW_at 195 (by decide +kernel) rfl)⟩) (fun q n a b hn ha hb => ?_) H locs ls rest ce q9 a9 b9 z9 hn9 hl9 hls9 hq9 hv9 hc9 ha9 hb9
        refine t_as (env' := [(3, .ref q)]) X dL_take_15 rfl (by rw [hN]; decide) rfl ?_
        refine g_iconst (v := I 2) X dL_take_16 rfl ?_
        exact h_iret X C hr rfl dL_take_17 ha hb (hR9 n hn)
      · rw [if_neg e3] at hcd
        exact absurd hcd (by simp)
  have h62' := hk.ty62 h62
  refine t_al 2 X dL_take_0 rfl rfl ?_
  refine g_iconst (v := I 0) X dL_take_1 rfl ?_
  refine t_al 0 X dL_take_2 rfl rfl ?_
  refine g_iload_n 1 X dL_take_3 rfl rfl ?_
  refine p_callV (st := [.int (I 0), .ref (sv + 62)]) (q := sv) (av := [.int p0]) (T := T9) X hTp htr rfl h1 (M_X6_take sv p0) lk_X6_take im_X6_take se_X6_take (qW_at 737 (by decide +kernel) rfl) rfl (by rw [hR]; exact ⟨Nat.le_of_ble_eq_true rfl, Nat.le_of_ble_eq_true rfl⟩) (by exact Nat.le_of_ble_eq_true rfl) (by rw [hR]; exact ⟨Nat.le_of_ble_eq_true rfl, Nat.le_of_ble_eq_true rfl⟩) dL_take_4 (by rfl) ?_
  unfold qwp
  rw [hx]
  cases r with
  | error e => exact her e rfl
  | ok v =>
    show GG k _ (.int v :: .int (I 0) :: .ref (sv + 62) :: []) m1 _ _ _
    refine g_i2l X dL_take_7 ?_
    refine g_last (q := sv + 62) (n := 1) X h62' (by intro q; rcases q with q | q <;> exact absurd q (by decide)) dL_take_8 ?_
    rw [show (I 0).toNatClampNeg = 0 from by decide]
    refine g_goto (tgt := 18) X dL_take_9 (by decide) ?_
    refine g_iconst (v := I 0) X dL_take_18 rfl ?_
    exact h_iret X C hr rfl dL_take_19 (by rw [hR]; exact Nat.le_of_ble_eq_true rfl) (by rw [hR]; exact Nat.le_of_ble_eq_true rfl) ((hok v rfl).2)
theorem dL_refuse_0 : decode cL_refuse 0 = .ok (.aload_n 2, 1) := by decide +kernel
theorem dL_refuse_1 : decode cL_refuse 1 = .ok (.iconst 0, 1) := by decide +kernel
theorem dL_refuse_2 : decode cL_refuse 2 = .ok (.aload_n 0, 1) := by decide +kernel
theorem dL_refuse_3 : decode cL_refuse 3 = .ok (.iload_n 1, 1) := by decide +kernel
theorem dL_refuse_4 : decode cL_refuse 4 = .ok (.invokevirtual 63, 3) := by decide +kernel
theorem dL_refuse_7 : decode cL_refuse 7 = .ok (.i2l, 1) := by decide +kernel
theorem dL_refuse_8 : decode cL_refuse 8 = .ok (.lastore, 1) := by decide +kernel
theorem dL_refuse_9 : decode cL_refuse 9 = .ok (.goto 9, 3) := by decide +kernel
theorem dL_refuse_12 : decode cL_refuse 12 = .ok (.astore_n 3, 1) := by decide +kernel
theorem dL_refuse_13 : decode cL_refuse 13 = .ok (.iconst 1, 1) := by decide +kernel
theorem dL_refuse_14 : decode cL_refuse 14 = .ok (.ireturn, 1) := by decide +kernel
theorem dL_refuse_15 : decode cL_refuse 15 = .ok (.astore_n 3, 1) := by decide +kernel
theorem dL_refuse_16 : decode cL_refuse 16 = .ok (.iconst 2, 1) := by decide +kernel
theorem dL_refuse_17 : decode cL_refuse 17 = .ok (.ireturn, 1) := by decide +kernel
theorem dL_refuse_18 : decode cL_refuse 18 = .ok (.iconst 0, 1) := by decide +kernel
theorem dL_refuse_19 : decode cL_refuse 19 = .ok (.ireturn, 1) := by decide +kernel
theorem lkh_refuse : LKH yL_refuse cL_refuse 4 (some .int) [(0, 9, 12, 13), (0, 9, 15, 31)] 3 := ⟨(qW_at 754 (by decide +kernel) rfl), (qW_at 74 (by decide +kernel) rfl), by decide, by decide, by decide +kernel⟩
theorem stl_refuse : Cond.static yL_refuse ∈ qW := (qW_at 753 (by decide +kernel) rfl)
set_option maxRecDepth 100000 in
set_option maxHeartbeats 1600000 in
theorem E_L_refuse (sv : Nat) (p0 : Int32) : MEH yL_refuse cL_refuse 4 (some .int) [(0, 9, 12, 13), (0, 9, 15, 31)] 8 124 2 12 (fun DA => [.ref sv, .int p0, .ref (sv + 62)]) (fun DA mm R => qty mm sv = (1, 7, 0) ∧ qty mm (sv + 62) = (3, 0, 1) ∧ ∃ r m1, F_X6_refuse sv p0 mm = some (r, m1) ∧ KP sv mm m1 ∧ (∀ v, r = .ok v → True ∧ R (.ok (some (.int (I 0)))) (sal m1 (sv + 62) 0 v.toInt64)) ∧ (∀ e0, r = .error e0 → ∃ cd, mpC e0 = some cd ∧ ∀ n, qtop m1 ≤ n → R (.ok (some (.int (I cd)))) (stop m1 n))) := by
  refine MEH_of (env0 := fun DA => [(0, .ref sv), (1, .int p0), (2, .ref (sv + 62))]) (by decide) (fun DA => by exact Nat.le_of_ble_eq_true rfl) (fun DA => by rfl) (fun k mm R X C hR hN hr hname hP => ?_)
  have X : CX k cL_refuse RL := X
  have htr := C.2.2.2.1
  obtain ⟨h1, h62, r, m1, hx, hk, hok, her⟩ := hP
  let T9 : Nat → QM → Prop := fun e m' => ∃ cd, mpC e = some cd ∧ ∀ n, qtop m' ≤ n → R (.ok (some (.int (I cd)))) (stop m' n)
  have hTp : THp k 4 T9 := by
    intro e mm9 H locs ls rest ce q9 a9 b9 hT9 z9 hn9 hl9 hls9 hq9 hv9 hc9 ha9 hb9
    obtain ⟨cd, hcd, hR9⟩ := hT9
    unfold mpC at hcd
    by_cases e1 : e = 1
    · subst e1
      have hcd : some (1 : Int) = some cd := hcd
      cases hcd
      refine t_catch (e := 1) (hh := [(0, 9, 12, 13), (0, 9, 15, 31)]) (pre := []) (suf := [(0, 9, 15, 31)]) X C.2.1 rfl (by decide) (by decide) (by decide) (qW_at 195 (by decide +kernel) rfl) (qN_at 207 (by decide +kernel) rfl) (fun z hz => absurd hz List.not_mem_nil) (fun q n a b hn ha hb => ?_) H locs ls rest ce q9 a9 b9 z9 hn9 hl9 hls9 hq9 hv9 hc9 ha9 hb9
      refine t_as (env' := [(3, .ref q)]) X dL_refuse_12 rfl (by rw [hN]; decide) rfl ?_
      refine g_iconst (v := I 1) X dL_refuse_13 rfl ?_
      exact h_iret X C hr rfl dL_refuse_14 ha hb (hR9 n hn)
    · rw [if_neg e1] at hcd
      by_cases e3 : e = 3
      · subst e3
        have hcd : some (2 : Int) = some cd := hcd
        cases hcd
        refine t_catch (e := 3) (hh := [(0, 9, 12, 13), (0, 9, 15, 31)]) (pre := [(0, 9, 12, 13)]) (suf := []) X C.2.1 rfl (by decide) (by decide) (by decide) (qW_at 334 (by decide +kernel) rfl) (qN_at 350 (by decide +kernel) rfl) (fun z hz => by
          simp only [List.mem_cons, List.mem_nil_iff, or_false] at hz
          rcases hz with rfl
          · exact ⟨by decide, 1, by decide, by decide, (qW_at 195 (by decide +kernel) rfl)⟩) (fun q n a b hn ha hb => ?_) H locs ls rest ce q9 a9 b9 z9 hn9 hl9 hls9 hq9 hv9 hc9 ha9 hb9
        refine t_as (env' := [(3, .ref q)]) X dL_refuse_15 rfl (by rw [hN]; decide) rfl ?_
        refine g_iconst (v := I 2) X dL_refuse_16 rfl ?_
        exact h_iret X C hr rfl dL_refuse_17 ha hb (hR9 n hn)
      · rw [if_neg e3] at hcd
        exact absurd hcd (by simp)
  have h62' := hk.ty62 h62
  refine t_al 2 X dL_refuse_0 rfl rfl ?_
  refine g_iconst (v := I 0) X dL_refuse_1 rfl ?_
  refine t_al 0 X dL_refuse_2 rfl rfl ?_
  refine g_iload_n 1 X dL_refuse_3 rfl rfl ?_
  refine p_callV (st := [.int (I 0), .ref (sv + 62)]) (q := sv) (av := [.int p0]) (T := T9) X hTp htr rfl h1 (M_X6_refuse sv p0) lk_X6_refuse im_X6_refuse se_X6_refuse (qW_at 755 (by decide +kernel) rfl) rfl (by rw [hR]; exact ⟨Nat.le_of_ble_eq_true rfl, Nat.le_of_ble_eq_true rfl⟩) (by exact Nat.le_of_ble_eq_true rfl) (by rw [hR]; exact ⟨Nat.le_of_ble_eq_true rfl, Nat.le_of_ble_eq_true rfl⟩) dL_refuse_4 (by rfl) ?_
  unfold qwp
  rw [hx]
  cases r with
  | error e => exact her e rfl
  | ok v =>
    show GG k _ (.int v :: .int (I 0) :: .ref (sv + 62) :: []) m1 _ _ _
    refine g_i2l X dL_refuse_7 ?_
    refine g_last (q := sv + 62) (n := 1) X h62' (by intro q; rcases q with q | q <;> exact absurd q (by decide)) dL_refuse_8 ?_
    rw [show (I 0).toNatClampNeg = 0 from by decide]
    refine g_goto (tgt := 18) X dL_refuse_9 (by decide) ?_
    refine g_iconst (v := I 0) X dL_refuse_18 rfl ?_
    exact h_iret X C hr rfl dL_refuse_19 (by rw [hR]; exact Nat.le_of_ble_eq_true rfl) (by rw [hR]; exact Nat.le_of_ble_eq_true rfl) ((hok v rfl).2)
theorem dL_answer_0 : decode cL_answer 0 = .ok (.aload 5, 2) := by decide +kernel
theorem dL_answer_2 : decode cL_answer 2 = .ok (.iconst 0, 1) := by decide +kernel
theorem dL_answer_3 : decode cL_answer 3 = .ok (.aload_n 0, 1) := by decide +kernel
theorem dL_answer_4 : decode cL_answer 4 = .ok (.iload_n 1, 1) := by decide +kernel
theorem dL_answer_5 : decode cL_answer 5 = .ok (.iload_n 2, 1) := by decide +kernel
theorem dL_answer_6 : decode cL_answer 6 = .ok (.iload_n 3, 1) := by decide +kernel
theorem dL_answer_7 : decode cL_answer 7 = .ok (.iload 4, 2) := by decide +kernel
theorem dL_answer_9 : decode cL_answer 9 = .ok (.invokevirtual 66, 3) := by decide +kernel
theorem dL_answer_12 : decode cL_answer 12 = .ok (.i2l, 1) := by decide +kernel
theorem dL_answer_13 : decode cL_answer 13 = .ok (.lastore, 1) := by decide +kernel
theorem dL_answer_14 : decode cL_answer 14 = .ok (.goto 15, 3) := by decide +kernel
theorem dL_answer_17 : decode cL_answer 17 = .ok (.astore 6, 2) := by decide +kernel
theorem dL_answer_19 : decode cL_answer 19 = .ok (.iconst 1, 1) := by decide +kernel
theorem dL_answer_20 : decode cL_answer 20 = .ok (.ireturn, 1) := by decide +kernel
theorem dL_answer_21 : decode cL_answer 21 = .ok (.astore 6, 2) := by decide +kernel
theorem dL_answer_23 : decode cL_answer 23 = .ok (.iconst 2, 1) := by decide +kernel
theorem dL_answer_24 : decode cL_answer 24 = .ok (.ireturn, 1) := by decide +kernel
theorem dL_answer_25 : decode cL_answer 25 = .ok (.astore 6, 2) := by decide +kernel
theorem dL_answer_27 : decode cL_answer 27 = .ok (.iconst 3, 1) := by decide +kernel
theorem dL_answer_28 : decode cL_answer 28 = .ok (.ireturn, 1) := by decide +kernel
theorem dL_answer_29 : decode cL_answer 29 = .ok (.iconst 0, 1) := by decide +kernel
theorem dL_answer_30 : decode cL_answer 30 = .ok (.ireturn, 1) := by decide +kernel
theorem lkh_answer : LKH yL_answer cL_answer 7 (some .int) [(0, 14, 17, 13), (0, 14, 21, 15), (0, 14, 25, 31)] 6 := ⟨(qW_at 765 (by decide +kernel) rfl), (qW_at 74 (by decide +kernel) rfl), by decide, by decide, by decide +kernel⟩
theorem stl_answer : Cond.static yL_answer ∈ qW := (qW_at 764 (by decide +kernel) rfl)
set_option maxRecDepth 100000 in
set_option maxHeartbeats 1600000 in
theorem E_L_answer (sv : Nat) (p0 p1 p2 p3 : Int32) : MEH yL_answer cL_answer 7 (some .int) [(0, 14, 17, 13), (0, 14, 21, 15), (0, 14, 25, 31)] 9 150 8 54 (fun DA => [.ref sv, .int p0, .int p1, .int p2, .int p3, .ref (sv + 62)]) (fun DA mm R => qty mm sv = (1, 7, 0) ∧ qty mm (sv + 62) = (3, 0, 1) ∧ ∃ r m1, F_X6_answer sv p0 p1 p2 p3 mm = some (r, m1) ∧ KP sv mm m1 ∧ (∀ v, r = .ok v → True ∧ R (.ok (some (.int (I 0)))) (sal m1 (sv + 62) 0 v.toInt64)) ∧ (∀ e0, r = .error e0 → ∃ cd, mpA e0 = some cd ∧ ∀ n, qtop m1 ≤ n → R (.ok (some (.int (I cd)))) (stop m1 n))) := by
  refine MEH_of (env0 := fun DA => [(0, .ref sv), (1, .int p0), (2, .int p1), (3, .int p2), (4, .int p3), (5, .ref (sv + 62))]) (by decide) (fun DA => by exact Nat.le_of_ble_eq_true rfl) (fun DA => by rfl) (fun k mm R X C hR hN hr hname hP => ?_)
  have X : CX k cL_answer RL := X
  have htr := C.2.2.2.1
  obtain ⟨h1, h62, r, m1, hx, hk, hok, her⟩ := hP
  let T9 : Nat → QM → Prop := fun e m' => ∃ cd, mpA e = some cd ∧ ∀ n, qtop m' ≤ n → R (.ok (some (.int (I cd)))) (stop m' n)
  have hTp : THp k 9 T9 := by
    intro e mm9 H locs ls rest ce q9 a9 b9 hT9 z9 hn9 hl9 hls9 hq9 hv9 hc9 ha9 hb9
    obtain ⟨cd, hcd, hR9⟩ := hT9
    unfold mpA at hcd
    by_cases e1 : e = 1
    · subst e1
      have hcd : some (1 : Int) = some cd := hcd
      cases hcd
      refine t_catch (e := 1) (hh := [(0, 14, 17, 13), (0, 14, 21, 15), (0, 14, 25, 31)]) (pre := []) (suf := [(0, 14, 21, 15), (0, 14, 25, 31)]) X C.2.1 rfl (by decide) (by decide) (by decide) (qW_at 195 (by decide +kernel) rfl) (qN_at 207 (by decide +kernel) rfl) (fun z hz => absurd hz List.not_mem_nil) (fun q n a b hn ha hb => ?_) H locs ls rest ce q9 a9 b9 z9 hn9 hl9 hls9 hq9 hv9 hc9 ha9 hb9
      refine g_astore (r := some q) (env' := [(6, .ref q)]) X dL_answer_17 (by rw [hN]; decide) rfl ?_
      refine g_iconst (v := I 1) X dL_answer_19 rfl ?_
      exact h_iret X C hr rfl dL_answer_20 ha hb (hR9 n hn)
    · rw [if_neg e1] at hcd
      by_cases e2 : e = 2
      · subst e2
        have hcd : some (2 : Int) = some cd := hcd
        cases hcd
        refine t_catch (e := 2) (hh := [(0, 14, 17, 13), (0, 14, 21, 15), (0, 14, 25, 31)]) (pre := [(0, 14, 17, 13)]) (suf := [(0, 14, 25, 31)]) X C.2.1 rfl (by decide) (by decide) (by decide) (qW_at 196 (by decide +kernel) rfl) (qN_at 276 (by decide +kernel) rfl) (fun z hz => by
          simp only [List.mem_cons, List.mem_nil_iff, or_false] at hz
          rcases hz with rfl
          · exact ⟨by decide, 1, by decide, by decide, (qW_at 195 (by decide +kernel) rfl)⟩) (fun q n a b hn ha hb => ?_) H locs ls rest ce q9 a9 b9 z9 hn9 hl9 hls9 hq9 hv9 hc9 ha9 hb9
        refine g_astore (r := some q) (env' := [(6, .ref q)]) X dL_answer_21 (by rw [hN]; decide) rfl ?_
        refine g_iconst (v := I 2) X dL_answer_23 rfl ?_
        exact h_iret X C hr rfl dL_answer_24 ha hb (hR9 n hn)
      · rw [if_neg e2] at hcd
        by_cases e3 : e = 3
        · subst e3
          have hcd : some (3 : Int) = some cd := hcd
          cases hcd
          refine t_catch (e := 3) (hh := [(0, 14, 17, 13), (0, 14, 21, 15), (0, 14, 25, 31)]) (pre := [(0, 14, 17, 13), (0, 14, 21, 15)]) (suf := []) X C.2.1 rfl (by decide) (by decide) (by decide) (qW_at 334 (by decide +kernel) rfl) (qN_at 350 (by decide +kernel) rfl) (fun z hz => by
            simp only [List.mem_cons, List.mem_nil_iff, or_false] at hz
            rcases hz with rfl | rfl
            · exact ⟨by decide, 1, by decide, by decide, (qW_at 195 (by decide +kernel) rfl)⟩
            · exact ⟨by decide, 2, by decide, by decide, (qW_at 196 (by decide +kernel) rfl)⟩) (fun q n a b hn ha hb => ?_) H locs ls rest ce q9 a9 b9 z9 hn9 hl9 hls9 hq9 hv9 hc9 ha9 hb9
          refine g_astore (r := some q) (env' := [(6, .ref q)]) X dL_answer_25 (by rw [hN]; decide) rfl ?_
          refine g_iconst (v := I 3) X dL_answer_27 rfl ?_
          exact h_iret X C hr rfl dL_answer_28 ha hb (hR9 n hn)
        · rw [if_neg e3] at hcd
          exact absurd hcd (by simp)
  have h62' := hk.ty62 h62
  refine g_aload (r := some (sv + 62)) 5 X dL_answer_0 rfl ?_
  refine g_iconst (v := I 0) X dL_answer_2 rfl ?_
  refine t_al 0 X dL_answer_3 rfl rfl ?_
  refine g_iload_n 1 X dL_answer_4 rfl rfl ?_
  refine g_iload_n 2 X dL_answer_5 rfl rfl ?_
  refine g_iload_n 3 X dL_answer_6 rfl rfl ?_
  refine g_iload 4 X dL_answer_7 rfl ?_
  refine p_callV (st := [.int (I 0), .ref (sv + 62)]) (q := sv) (av := [.int p0, .int p1, .int p2, .int p3]) (T := T9) X hTp htr rfl h1 (M_X6_answer sv p0 p1 p2 p3) lk_X6_answer im_X6_answer se_X6_answer (qW_at 766 (by decide +kernel) rfl) rfl (by rw [hR]; exact ⟨Nat.le_of_ble_eq_true rfl, Nat.le_of_ble_eq_true rfl⟩) (by exact Nat.le_of_ble_eq_true rfl) (by rw [hR]; exact ⟨Nat.le_of_ble_eq_true rfl, Nat.le_of_ble_eq_true rfl⟩) dL_answer_9 (by rfl) ?_
  unfold qwp
  rw [hx]
  cases r with
  | error e => exact her e rfl
  | ok v =>
    show GG k _ (.int v :: .int (I 0) :: .ref (sv + 62) :: []) m1 _ _ _
    refine g_i2l X dL_answer_12 ?_
    refine g_last (q := sv + 62) (n := 1) X h62' (by intro q; rcases q with q | q <;> exact absurd q (by decide)) dL_answer_13 ?_
    rw [show (I 0).toNatClampNeg = 0 from by decide]
    refine g_goto (tgt := 29) X dL_answer_14 (by decide) ?_
    refine g_iconst (v := I 0) X dL_answer_29 rfl ?_
    exact h_iret X C hr rfl dL_answer_30 (by rw [hR]; exact Nat.le_of_ble_eq_true rfl) (by rw [hR]; exact Nat.le_of_ble_eq_true rfl) ((hok v rfl).2)
theorem dL_delegate_0 : decode cL_delegate 0 = .ok (.aload 4, 2) := by decide +kernel
theorem dL_delegate_2 : decode cL_delegate 2 = .ok (.iconst 0, 1) := by decide +kernel
theorem dL_delegate_3 : decode cL_delegate 3 = .ok (.aload_n 0, 1) := by decide +kernel
theorem dL_delegate_4 : decode cL_delegate 4 = .ok (.iload_n 1, 1) := by decide +kernel
theorem dL_delegate_5 : decode cL_delegate 5 = .ok (.iload_n 2, 1) := by decide +kernel
theorem dL_delegate_6 : decode cL_delegate 6 = .ok (.iload_n 3, 1) := by decide +kernel
theorem dL_delegate_7 : decode cL_delegate 7 = .ok (.invokevirtual 69, 3) := by decide +kernel
theorem dL_delegate_10 : decode cL_delegate 10 = .ok (.i2l, 1) := by decide +kernel
theorem dL_delegate_11 : decode cL_delegate 11 = .ok (.lastore, 1) := by decide +kernel
theorem dL_delegate_12 : decode cL_delegate 12 = .ok (.goto 15, 3) := by decide +kernel
theorem dL_delegate_15 : decode cL_delegate 15 = .ok (.astore 5, 2) := by decide +kernel
theorem dL_delegate_17 : decode cL_delegate 17 = .ok (.iconst 1, 1) := by decide +kernel
theorem dL_delegate_18 : decode cL_delegate 18 = .ok (.ireturn, 1) := by decide +kernel
theorem dL_delegate_19 : decode cL_delegate 19 = .ok (.astore 5, 2) := by decide +kernel
theorem dL_delegate_21 : decode cL_delegate 21 = .ok (.iconst 2, 1) := by decide +kernel
theorem dL_delegate_22 : decode cL_delegate 22 = .ok (.ireturn, 1) := by decide +kernel
theorem dL_delegate_23 : decode cL_delegate 23 = .ok (.astore 5, 2) := by decide +kernel
theorem dL_delegate_25 : decode cL_delegate 25 = .ok (.iconst 3, 1) := by decide +kernel
theorem dL_delegate_26 : decode cL_delegate 26 = .ok (.ireturn, 1) := by decide +kernel
theorem dL_delegate_27 : decode cL_delegate 27 = .ok (.iconst 0, 1) := by decide +kernel
theorem dL_delegate_28 : decode cL_delegate 28 = .ok (.ireturn, 1) := by decide +kernel
theorem lkh_delegate : LKH yL_delegate cL_delegate 6 (some .int) [(0, 12, 15, 13), (0, 12, 19, 15), (0, 12, 23, 31)] 5 := ⟨(qW_at 787 (by decide +kernel) rfl), (qW_at 74 (by decide +kernel) rfl), by decide, by decide, by decide +kernel⟩
theorem stl_delegate : Cond.static yL_delegate ∈ qW := (qW_at 786 (by decide +kernel) rfl)
set_option maxRecDepth 100000 in
set_option maxHeartbeats 1600000 in
theorem E_L_delegate (sv : Nat) (p0 p1 p2 : Int32) : MEH yL_delegate cL_delegate 6 (some .int) [(0, 12, 15, 13), (0, 12, 19, 15), (0, 12, 23, 31)] 9 149 8 60 (fun DA => [.ref sv, .int p0, .int p1, .int p2, .ref (sv + 62)]) (fun DA mm R => qty mm sv = (1, 7, 0) ∧ qty mm (sv + 62) = (3, 0, 1) ∧ ∃ r m1, F_X6_delegate sv p0 p1 p2 mm = some (r, m1) ∧ KP sv mm m1 ∧ (∀ v, r = .ok v → True ∧ R (.ok (some (.int (I 0)))) (sal m1 (sv + 62) 0 v.toInt64)) ∧ (∀ e0, r = .error e0 → ∃ cd, mpA e0 = some cd ∧ ∀ n, qtop m1 ≤ n → R (.ok (some (.int (I cd)))) (stop m1 n))) := by
  refine MEH_of (env0 := fun DA => [(0, .ref sv), (1, .int p0), (2, .int p1), (3, .int p2), (4, .ref (sv + 62))]) (by decide) (fun DA => by exact Nat.le_of_ble_eq_true rfl) (fun DA => by rfl) (fun k mm R X C hR hN hr hname hP => ?_)
  have X : CX k cL_delegate RL := X
  have htr := C.2.2.2.1
  obtain ⟨h1, h62, r, m1, hx, hk, hok, her⟩ := hP
  let T9 : Nat → QM → Prop := fun e m' => ∃ cd, mpA e = some cd ∧ ∀ n, qtop m' ≤ n → R (.ok (some (.int (I cd)))) (stop m' n)
  have hTp : THp k 7 T9 := by
    intro e mm9 H locs ls rest ce q9 a9 b9 hT9 z9 hn9 hl9 hls9 hq9 hv9 hc9 ha9 hb9
    obtain ⟨cd, hcd, hR9⟩ := hT9
    unfold mpA at hcd
    by_cases e1 : e = 1
    · subst e1
      have hcd : some (1 : Int) = some cd := hcd
      cases hcd
      refine t_catch (e := 1) (hh := [(0, 12, 15, 13), (0, 12, 19, 15), (0, 12, 23, 31)]) (pre := []) (suf := [(0, 12, 19, 15), (0, 12, 23, 31)]) X C.2.1 rfl (by decide) (by decide) (by decide) (qW_at 195 (by decide +kernel) rfl) (qN_at 207 (by decide +kernel) rfl) (fun z hz => absurd hz List.not_mem_nil) (fun q n a b hn ha hb => ?_) H locs ls rest ce q9 a9 b9 z9 hn9 hl9 hls9 hq9 hv9 hc9 ha9 hb9
      refine g_astore (r := some q) (env' := [(5, .ref q)]) X dL_delegate_15 (by rw [hN]; decide) rfl ?_
      refine g_iconst (v := I 1) X dL_delegate_17 rfl ?_
      exact h_iret X C hr rfl dL_delegate_18 ha hb (hR9 n hn)
    · rw [if_neg e1] at hcd
      by_cases e2 : e = 2
      · subst e2
        have hcd : some (2 : Int) = some cd := hcd
        cases hcd
        refine t_catch (e := 2) (hh := [(0, 12, 15, 13), (0, 12, 19, 15), (0, 12, 23, 31)]) (pre := [(0, 12, 15, 13)]) (suf := [(0, 12, 23, 31)]) X C.2.1 rfl (by decide) (by decide) (by decide) (qW_at 196 (by decide +kernel) rfl) (qN_at 276 (by decide +kernel) rfl) (fun z hz => by
          simp only [List.mem_cons, List.mem_nil_iff, or_false] at hz
          rcases hz with rfl
          · exact ⟨by decide, 1, by decide, by decide, (qW_at 195 (by decide +kernel) rfl)⟩) (fun q n a b hn ha hb => ?_) H locs ls rest ce q9 a9 b9 z9 hn9 hl9 hls9 hq9 hv9 hc9 ha9 hb9
        refine g_astore (r := some q) (env' := [(5, .ref q)]) X dL_delegate_19 (by rw [hN]; decide) rfl ?_
        refine g_iconst (v := I 2) X dL_delegate_21 rfl ?_
        exact h_iret X C hr rfl dL_delegate_22 ha hb (hR9 n hn)
      · rw [if_neg e2] at hcd
        by_cases e3 : e = 3
        · subst e3
          have hcd : some (3 : Int) = some cd := hcd
          cases hcd
          refine t_catch (e := 3) (hh := [(0, 12, 15, 13), (0, 12, 19, 15), (0, 12, 23, 31)]) (pre := [(0, 12, 15, 13), (0, 12, 19, 15)]) (suf := []) X C.2.1 rfl (by decide) (by decide) (by decide) (qW_at 334 (by decide +kernel) rfl) (qN_at 350 (by decide +kernel) rfl) (fun z hz => by
            simp only [List.mem_cons, List.mem_nil_iff, or_false] at hz
            rcases hz with rfl | rfl
            · exact ⟨by decide, 1, by decide, by decide, (qW_at 195 (by decide +kernel) rfl)⟩
            · exact ⟨by decide, 2, by decide, by decide, (qW_at 196 (by decide +kernel) rfl)⟩) (fun q n a b hn ha hb => ?_) H locs ls rest ce q9 a9 b9 z9 hn9 hl9 hls9 hq9 hv9 hc9 ha9 hb9
          refine g_astore (r := some q) (env' := [(5, .ref q)]) X dL_delegate_23 (by rw [hN]; decide) rfl ?_
          refine g_iconst (v := I 3) X dL_delegate_25 rfl ?_
          exact h_iret X C hr rfl dL_delegate_26 ha hb (hR9 n hn)
        · rw [if_neg e3] at hcd
          exact absurd hcd (by simp)
  have h62' := hk.ty62 h62
  refine g_aload (r := some (sv + 62)) 4 X dL_delegate_0 rfl ?_
  refine g_iconst (v := I 0) X dL_delegate_2 rfl ?_
  refine t_al 0 X dL_delegate_3 rfl rfl ?_
  refine g_iload_n 1 X dL_delegate_4 rfl rfl ?_
  refine g_iload_n 2 X dL_delegate_5 rfl rfl ?_
  refine g_iload_n 3 X dL_delegate_6 rfl rfl ?_
  refine p_callV (st := [.int (I 0), .ref (sv + 62)]) (q := sv) (av := [.int p0, .int p1, .int p2]) (T := T9) X hTp htr rfl h1 (M_X6_delegate sv p0 p1 p2) lk_X6_delegate im_X6_delegate se_X6_delegate (qW_at 788 (by decide +kernel) rfl) rfl (by rw [hR]; exact ⟨Nat.le_of_ble_eq_true rfl, Nat.le_of_ble_eq_true rfl⟩) (by exact Nat.le_of_ble_eq_true rfl) (by rw [hR]; exact ⟨Nat.le_of_ble_eq_true rfl, Nat.le_of_ble_eq_true rfl⟩) dL_delegate_7 (by rfl) ?_
  unfold qwp
  rw [hx]
  cases r with
  | error e => exact her e rfl
  | ok v =>
    show GG k _ (.int v :: .int (I 0) :: .ref (sv + 62) :: []) m1 _ _ _
    refine g_i2l X dL_delegate_10 ?_
    refine g_last (q := sv + 62) (n := 1) X h62' (by intro q; rcases q with q | q <;> exact absurd q (by decide)) dL_delegate_11 ?_
    rw [show (I 0).toNatClampNeg = 0 from by decide]
    refine g_goto (tgt := 27) X dL_delegate_12 (by decide) ?_
    refine g_iconst (v := I 0) X dL_delegate_27 rfl ?_
    exact h_iret X C hr rfl dL_delegate_28 (by rw [hR]; exact Nat.le_of_ble_eq_true rfl) (by rw [hR]; exact Nat.le_of_ble_eq_true rfl) ((hok v rfl).2)
theorem dL_propose_0 : decode cL_propose 0 = .ok (.aload 5, 2) := by decide +kernel
theorem dL_propose_2 : decode cL_propose 2 = .ok (.iconst 0, 1) := by decide +kernel
theorem dL_propose_3 : decode cL_propose 3 = .ok (.aload_n 0, 1) := by decide +kernel
theorem dL_propose_4 : decode cL_propose 4 = .ok (.iload_n 1, 1) := by decide +kernel
theorem dL_propose_5 : decode cL_propose 5 = .ok (.iload_n 2, 1) := by decide +kernel
theorem dL_propose_6 : decode cL_propose 6 = .ok (.iload_n 3, 1) := by decide +kernel
theorem dL_propose_7 : decode cL_propose 7 = .ok (.iload 4, 2) := by decide +kernel
theorem dL_propose_9 : decode cL_propose 9 = .ok (.invokevirtual 72, 3) := by decide +kernel
theorem dL_propose_12 : decode cL_propose 12 = .ok (.i2l, 1) := by decide +kernel
theorem dL_propose_13 : decode cL_propose 13 = .ok (.lastore, 1) := by decide +kernel
theorem dL_propose_14 : decode cL_propose 14 = .ok (.goto 15, 3) := by decide +kernel
theorem dL_propose_17 : decode cL_propose 17 = .ok (.astore 6, 2) := by decide +kernel
theorem dL_propose_19 : decode cL_propose 19 = .ok (.iconst 1, 1) := by decide +kernel
theorem dL_propose_20 : decode cL_propose 20 = .ok (.ireturn, 1) := by decide +kernel
theorem dL_propose_21 : decode cL_propose 21 = .ok (.astore 6, 2) := by decide +kernel
theorem dL_propose_23 : decode cL_propose 23 = .ok (.iconst 2, 1) := by decide +kernel
theorem dL_propose_24 : decode cL_propose 24 = .ok (.ireturn, 1) := by decide +kernel
theorem dL_propose_25 : decode cL_propose 25 = .ok (.astore 6, 2) := by decide +kernel
theorem dL_propose_27 : decode cL_propose 27 = .ok (.iconst 3, 1) := by decide +kernel
theorem dL_propose_28 : decode cL_propose 28 = .ok (.ireturn, 1) := by decide +kernel
theorem dL_propose_29 : decode cL_propose 29 = .ok (.iconst 0, 1) := by decide +kernel
theorem dL_propose_30 : decode cL_propose 30 = .ok (.ireturn, 1) := by decide +kernel
theorem lkh_propose : LKH yL_propose cL_propose 7 (some .int) [(0, 14, 17, 13), (0, 14, 21, 15), (0, 14, 25, 31)] 6 := ⟨(qW_at 794 (by decide +kernel) rfl), (qW_at 74 (by decide +kernel) rfl), by decide, by decide, by decide +kernel⟩
theorem stl_propose : Cond.static yL_propose ∈ qW := (qW_at 793 (by decide +kernel) rfl)
set_option maxRecDepth 100000 in
set_option maxHeartbeats 1600000 in
theorem E_L_propose (sv : Nat) (p0 p1 p2 p3 : Int32) : MEH yL_propose cL_propose 7 (some .int) [(0, 14, 17, 13), (0, 14, 21, 15), (0, 14, 25, 31)] 10 170 8 54 (fun DA => [.ref sv, .int p0, .int p1, .int p2, .int p3, .ref (sv + 62)]) (fun DA mm R => qty mm sv = (1, 7, 0) ∧ qty mm (sv + 62) = (3, 0, 1) ∧ ∃ r m1, F_X6_propose sv p0 p1 p2 p3 mm = some (r, m1) ∧ KP sv mm m1 ∧ (∀ v, r = .ok v → True ∧ R (.ok (some (.int (I 0)))) (sal m1 (sv + 62) 0 v.toInt64)) ∧ (∀ e0, r = .error e0 → ∃ cd, mpA e0 = some cd ∧ ∀ n, qtop m1 ≤ n → R (.ok (some (.int (I cd)))) (stop m1 n))) := by
  refine MEH_of (env0 := fun DA => [(0, .ref sv), (1, .int p0), (2, .int p1), (3, .int p2), (4, .int p3), (5, .ref (sv + 62))]) (by decide) (fun DA => by exact Nat.le_of_ble_eq_true rfl) (fun DA => by rfl) (fun k mm R X C hR hN hr hname hP => ?_)
  have X : CX k cL_propose RL := X
  have htr := C.2.2.2.1
  obtain ⟨h1, h62, r, m1, hx, hk, hok, her⟩ := hP
  let T9 : Nat → QM → Prop := fun e m' => ∃ cd, mpA e = some cd ∧ ∀ n, qtop m' ≤ n → R (.ok (some (.int (I cd)))) (stop m' n)
  have hTp : THp k 9 T9 := by
    intro e mm9 H locs ls rest ce q9 a9 b9 hT9 z9 hn9 hl9 hls9 hq9 hv9 hc9 ha9 hb9
    obtain ⟨cd, hcd, hR9⟩ := hT9
    unfold mpA at hcd
    by_cases e1 : e = 1
    · subst e1
      have hcd : some (1 : Int) = some cd := hcd
      cases hcd
      refine t_catch (e := 1) (hh := [(0, 14, 17, 13), (0, 14, 21, 15), (0, 14, 25, 31)]) (pre := []) (suf := [(0, 14, 21, 15), (0, 14, 25, 31)]) X C.2.1 rfl (by decide) (by decide) (by decide) (qW_at 195 (by decide +kernel) rfl) (qN_at 207 (by decide +kernel) rfl) (fun z hz => absurd hz List.not_mem_nil) (fun q n a b hn ha hb => ?_) H locs ls rest ce q9 a9 b9 z9 hn9 hl9 hls9 hq9 hv9 hc9 ha9 hb9
      refine g_astore (r := some q) (env' := [(6, .ref q)]) X dL_propose_17 (by rw [hN]; decide) rfl ?_
      refine g_iconst (v := I 1) X dL_propose_19 rfl ?_
      exact h_iret X C hr rfl dL_propose_20 ha hb (hR9 n hn)
    · rw [if_neg e1] at hcd
      by_cases e2 : e = 2
      · subst e2
        have hcd : some (2 : Int) = some cd := hcd
        cases hcd
        refine t_catch (e := 2) (hh := [(0, 14, 17, 13), (0, 14, 21, 15), (0, 14, 25, 31)]) (pre := [(0, 14, 17, 13)]) (suf := [(0, 14, 25, 31)]) X C.2.1 rfl (by decide) (by decide) (by decide) (qW_at 196 (by decide +kernel) rfl) (qN_at 276 (by decide +kernel) rfl) (fun z hz => by
          simp only [List.mem_cons, List.mem_nil_iff, or_false] at hz
          rcases hz with rfl
          · exact ⟨by decide, 1, by decide, by decide, (qW_at 195 (by decide +kernel) rfl)⟩) (fun q n a b hn ha hb => ?_) H locs ls rest ce q9 a9 b9 z9 hn9 hl9 hls9 hq9 hv9 hc9 ha9 hb9
        refine g_astore (r := some q) (env' := [(6, .ref q)]) X dL_propose_21 (by rw [hN]; decide) rfl ?_
        refine g_iconst (v := I 2) X dL_propose_23 rfl ?_
        exact h_iret X C hr rfl dL_propose_24 ha hb (hR9 n hn)
      · rw [if_neg e2] at hcd
        by_cases e3 : e = 3
        · subst e3
          have hcd : some (3 : Int) = some cd := hcd
          cases hcd
          refine t_catch (e := 3) (hh := [(0, 14, 17, 13), (0, 14, 21, 15), (0, 14, 25, 31)]) (pre := [(0, 14, 17, 13), (0, 14, 21, 15)]) (suf := []) X C.2.1 rfl (by decide) (by decide) (by decide) (qW_at 334 (by decide +kernel) rfl) (qN_at 350 (by decide +kernel) rfl) (fun z hz => by
            simp only [List.mem_cons, List.mem_nil_iff, or_false] at hz
            rcases hz with rfl | rfl
            · exact ⟨by decide, 1, by decide, by decide, (qW_at 195 (by decide +kernel) rfl)⟩
            · exact ⟨by decide, 2, by decide, by decide, (qW_at 196 (by decide +kernel) rfl)⟩) (fun q n a b hn ha hb => ?_) H locs ls rest ce q9 a9 b9 z9 hn9 hl9 hls9 hq9 hv9 hc9 ha9 hb9
          refine g_astore (r := some q) (env' := [(6, .ref q)]) X dL_propose_25 (by rw [hN]; decide) rfl ?_
          refine g_iconst (v := I 3) X dL_propose_27 rfl ?_
          exact h_iret X C hr rfl dL_propose_28 ha hb (hR9 n hn)
        · rw [if_neg e3] at hcd
          exact absurd hcd (by simp)
  have h62' := hk.ty62 h62
  refine g_aload (r := some (sv + 62)) 5 X dL_propose_0 rfl ?_
  refine g_iconst (v := I 0) X dL_propose_2 rfl ?_
  refine t_al 0 X dL_propose_3 rfl rfl ?_
  refine g_iload_n 1 X dL_propose_4 rfl rfl ?_
  refine g_iload_n 2 X dL_propose_5 rfl rfl ?_
  refine g_iload_n 3 X dL_propose_6 rfl rfl ?_
  refine g_iload 4 X dL_propose_7 rfl ?_
  refine p_callV (st := [.int (I 0), .ref (sv + 62)]) (q := sv) (av := [.int p0, .int p1, .int p2, .int p3]) (T := T9) X hTp htr rfl h1 (M_X6_propose sv p0 p1 p2 p3) lk_X6_propose im_X6_propose se_X6_propose (qW_at 795 (by decide +kernel) rfl) rfl (by rw [hR]; exact ⟨Nat.le_of_ble_eq_true rfl, Nat.le_of_ble_eq_true rfl⟩) (by exact Nat.le_of_ble_eq_true rfl) (by rw [hR]; exact ⟨Nat.le_of_ble_eq_true rfl, Nat.le_of_ble_eq_true rfl⟩) dL_propose_9 (by rfl) ?_
  unfold qwp
  rw [hx]
  cases r with
  | error e => exact her e rfl
  | ok v =>
    show GG k _ (.int v :: .int (I 0) :: .ref (sv + 62) :: []) m1 _ _ _
    refine g_i2l X dL_propose_12 ?_
    refine g_last (q := sv + 62) (n := 1) X h62' (by intro q; rcases q with q | q <;> exact absurd q (by decide)) dL_propose_13 ?_
    rw [show (I 0).toNatClampNeg = 0 from by decide]
    refine g_goto (tgt := 29) X dL_propose_14 (by decide) ?_
    refine g_iconst (v := I 0) X dL_propose_29 rfl ?_
    exact h_iret X C hr rfl dL_propose_30 (by rw [hR]; exact Nat.le_of_ble_eq_true rfl) (by rw [hR]; exact Nat.le_of_ble_eq_true rfl) ((hok v rfl).2)
theorem dL_deliver_0 : decode cL_deliver 0 = .ok (.aload_n 2, 1) := by decide +kernel
theorem dL_deliver_1 : decode cL_deliver 1 = .ok (.iconst 0, 1) := by decide +kernel
theorem dL_deliver_2 : decode cL_deliver 2 = .ok (.aload_n 0, 1) := by decide +kernel
theorem dL_deliver_3 : decode cL_deliver 3 = .ok (.iload_n 1, 1) := by decide +kernel
theorem dL_deliver_4 : decode cL_deliver 4 = .ok (.invokevirtual 75, 3) := by decide +kernel
theorem dL_deliver_7 : decode cL_deliver 7 = .ok (.ifCond .eq 7, 3) := by decide +kernel
theorem dL_deliver_10 : decode cL_deliver 10 = .ok (.lconst 1, 1) := by decide +kernel
theorem dL_deliver_11 : decode cL_deliver 11 = .ok (.goto 4, 3) := by decide +kernel
theorem dL_deliver_14 : decode cL_deliver 14 = .ok (.lconst 0, 1) := by decide +kernel
theorem dL_deliver_15 : decode cL_deliver 15 = .ok (.lastore, 1) := by decide +kernel
theorem dL_deliver_16 : decode cL_deliver 16 = .ok (.goto 6, 3) := by decide +kernel
theorem dL_deliver_19 : decode cL_deliver 19 = .ok (.astore_n 3, 1) := by decide +kernel
theorem dL_deliver_20 : decode cL_deliver 20 = .ok (.iconst 1, 1) := by decide +kernel
theorem dL_deliver_21 : decode cL_deliver 21 = .ok (.ireturn, 1) := by decide +kernel
theorem dL_deliver_22 : decode cL_deliver 22 = .ok (.iconst 0, 1) := by decide +kernel
theorem dL_deliver_23 : decode cL_deliver 23 = .ok (.ireturn, 1) := by decide +kernel
theorem lkh_deliver : LKH yL_deliver cL_deliver 4 (some .int) [(0, 16, 19, 13)] 3 := ⟨(qW_at 801 (by decide +kernel) rfl), (qW_at 74 (by decide +kernel) rfl), by decide, by decide, by decide +kernel⟩
theorem stl_deliver : Cond.static yL_deliver ∈ qW := (qW_at 800 (by decide +kernel) rfl)
set_option maxRecDepth 100000 in
set_option maxHeartbeats 1600000 in
theorem E_L_deliver (sv : Nat) (p0 : Int32) : MEH yL_deliver cL_deliver 4 (some .int) [(0, 16, 19, 13)] 8 125 1 6 (fun DA => [.ref sv, .int p0, .ref (sv + 62)]) (fun DA mm R => qty mm sv = (1, 7, 0) ∧ qty mm (sv + 62) = (3, 0, 1) ∧ ∃ r m1, F_X6_deliver sv p0 mm = some (r, m1) ∧ KP sv mm m1 ∧ (∀ v, r = .ok v → (v = 0 ∨ v = 1) ∧ R (.ok (some (.int (I 0)))) (sal m1 (sv + 62) 0 v.toInt64)) ∧ (∀ e0, r = .error e0 → ∃ cd, mpD e0 = some cd ∧ ∀ n, qtop m1 ≤ n → R (.ok (some (.int (I cd)))) (stop m1 n))) := by
  refine MEH_of (env0 := fun DA => [(0, .ref sv), (1, .int p0), (2, .ref (sv + 62))]) (by decide) (fun DA => by exact Nat.le_of_ble_eq_true rfl) (fun DA => by rfl) (fun k mm R X C hR hN hr hname hP => ?_)
  have X : CX k cL_deliver RL := X
  have htr := C.2.2.2.1
  obtain ⟨h1, h62, r, m1, hx, hk, hok, her⟩ := hP
  let T9 : Nat → QM → Prop := fun e m' => ∃ cd, mpD e = some cd ∧ ∀ n, qtop m' ≤ n → R (.ok (some (.int (I cd)))) (stop m' n)
  have hTp : THp k 4 T9 := by
    intro e mm9 H locs ls rest ce q9 a9 b9 hT9 z9 hn9 hl9 hls9 hq9 hv9 hc9 ha9 hb9
    obtain ⟨cd, hcd, hR9⟩ := hT9
    unfold mpD at hcd
    by_cases e1 : e = 1
    · subst e1
      have hcd : some (1 : Int) = some cd := hcd
      cases hcd
      refine t_catch (e := 1) (hh := [(0, 16, 19, 13)]) (pre := []) (suf := []) X C.2.1 rfl (by decide) (by decide) (by decide) (qW_at 195 (by decide +kernel) rfl) (qN_at 207 (by decide +kernel) rfl) (fun z hz => absurd hz List.not_mem_nil) (fun q n a b hn ha hb => ?_) H locs ls rest ce q9 a9 b9 z9 hn9 hl9 hls9 hq9 hv9 hc9 ha9 hb9
      refine t_as (env' := [(3, .ref q)]) X dL_deliver_19 rfl (by rw [hN]; decide) rfl ?_
      refine g_iconst (v := I 1) X dL_deliver_20 rfl ?_
      exact h_iret X C hr rfl dL_deliver_21 ha hb (hR9 n hn)
    · rw [if_neg e1] at hcd
      exact absurd hcd (by simp)
  have h62' := hk.ty62 h62
  refine t_al 2 X dL_deliver_0 rfl rfl ?_
  refine g_iconst (v := I 0) X dL_deliver_1 rfl ?_
  refine t_al 0 X dL_deliver_2 rfl rfl ?_
  refine g_iload_n 1 X dL_deliver_3 rfl rfl ?_
  refine p_callV (st := [.int (I 0), .ref (sv + 62)]) (q := sv) (av := [.int p0]) (T := T9) X hTp htr rfl h1 (M_X6_deliver sv p0) lk_X6_deliver im_X6_deliver se_X6_deliver (qW_at 802 (by decide +kernel) rfl) rfl (by rw [hR]; exact ⟨Nat.le_of_ble_eq_true rfl, Nat.le_of_ble_eq_true rfl⟩) (by exact Nat.le_of_ble_eq_true rfl) (by rw [hR]; exact ⟨Nat.le_of_ble_eq_true rfl, Nat.le_of_ble_eq_true rfl⟩) dL_deliver_4 (by rfl) ?_
  unfold qwp
  rw [hx]
  cases r with
  | error e => exact her e rfl
  | ok v =>
    show GG k _ (.int v :: .int (I 0) :: .ref (sv + 62) :: []) m1 _ _ _
    rcases (hok v rfl).1 with rfl | rfl
    · refine t_eqT (tgt := 14) X dL_deliver_7 (by decide) rfl ?_
      refine g_lconst (v := (0 : Int32).toInt64) X dL_deliver_14 (by decide) ?_
      refine g_last (q := sv + 62) (n := 1) X h62' (by intro q; rcases q with q | q <;> exact absurd q (by decide)) dL_deliver_15 ?_
      rw [show (I 0).toNatClampNeg = 0 from by decide]
      refine g_goto (tgt := 22) X dL_deliver_16 (by decide) ?_
      refine g_iconst (v := I 0) X dL_deliver_22 rfl ?_
      exact h_iret X C hr rfl dL_deliver_23 (by rw [hR]; exact Nat.le_of_ble_eq_true rfl) (by rw [hR]; exact Nat.le_of_ble_eq_true rfl) ((hok _ rfl).2)
    · refine t_eqF 14 X dL_deliver_7 (by decide) (by decide) ?_
      refine g_lconst (v := (1 : Int32).toInt64) X dL_deliver_10 (by decide) ?_
      refine g_goto (tgt := 15) X dL_deliver_11 (by decide) ?_
      refine g_last (q := sv + 62) (n := 1) X h62' (by intro q; rcases q with q | q <;> exact absurd q (by decide)) dL_deliver_15 ?_
      rw [show (I 0).toNatClampNeg = 0 from by decide]
      refine g_goto (tgt := 22) X dL_deliver_16 (by decide) ?_
      refine g_iconst (v := I 0) X dL_deliver_22 rfl ?_
      exact h_iret X C hr rfl dL_deliver_23 (by rw [hR]; exact Nat.le_of_ble_eq_true rfl) (by rw [hR]; exact Nat.le_of_ble_eq_true rfl) ((hok _ rfl).2)
theorem dL_kindOf_0 : decode cL_kindOf 0 = .ok (.aload_n 2, 1) := by decide +kernel
theorem dL_kindOf_1 : decode cL_kindOf 1 = .ok (.iconst 0, 1) := by decide +kernel
theorem dL_kindOf_2 : decode cL_kindOf 2 = .ok (.aload_n 0, 1) := by decide +kernel
theorem dL_kindOf_3 : decode cL_kindOf 3 = .ok (.iload_n 1, 1) := by decide +kernel
theorem dL_kindOf_4 : decode cL_kindOf 4 = .ok (.invokevirtual 79, 3) := by decide +kernel
theorem dL_kindOf_7 : decode cL_kindOf 7 = .ok (.i2l, 1) := by decide +kernel
theorem dL_kindOf_8 : decode cL_kindOf 8 = .ok (.lastore, 1) := by decide +kernel
theorem dL_kindOf_9 : decode cL_kindOf 9 = .ok (.goto 6, 3) := by decide +kernel
theorem dL_kindOf_12 : decode cL_kindOf 12 = .ok (.astore_n 3, 1) := by decide +kernel
theorem dL_kindOf_13 : decode cL_kindOf 13 = .ok (.iconst 1, 1) := by decide +kernel
theorem dL_kindOf_14 : decode cL_kindOf 14 = .ok (.ireturn, 1) := by decide +kernel
theorem dL_kindOf_15 : decode cL_kindOf 15 = .ok (.iconst 0, 1) := by decide +kernel
theorem dL_kindOf_16 : decode cL_kindOf 16 = .ok (.ireturn, 1) := by decide +kernel
theorem lkh_kindOf : LKH yL_kindOf cL_kindOf 4 (some .int) [(0, 9, 12, 13)] 3 := ⟨(qW_at 817 (by decide +kernel) rfl), (qW_at 74 (by decide +kernel) rfl), by decide, by decide, by decide +kernel⟩
theorem stl_kindOf : Cond.static yL_kindOf ∈ qW := (qW_at 816 (by decide +kernel) rfl)
set_option maxRecDepth 100000 in
set_option maxHeartbeats 1600000 in
theorem E_L_kindOf (sv : Nat) (p0 : Int32) : MEH yL_kindOf cL_kindOf 4 (some .int) [(0, 9, 12, 13)] 8 123 1 6 (fun DA => [.ref sv, .int p0, .ref (sv + 62)]) (fun DA mm R => qty mm sv = (1, 7, 0) ∧ qty mm (sv + 62) = (3, 0, 1) ∧ ∃ r m1, F_X6_kindOf sv p0 mm = some (r, m1) ∧ KP sv mm m1 ∧ (∀ v, r = .ok v → True ∧ R (.ok (some (.int (I 0)))) (sal m1 (sv + 62) 0 v.toInt64)) ∧ (∀ e0, r = .error e0 → ∃ cd, mpD e0 = some cd ∧ ∀ n, qtop m1 ≤ n → R (.ok (some (.int (I cd)))) (stop m1 n))) := by
  refine MEH_of (env0 := fun DA => [(0, .ref sv), (1, .int p0), (2, .ref (sv + 62))]) (by decide) (fun DA => by exact Nat.le_of_ble_eq_true rfl) (fun DA => by rfl) (fun k mm R X C hR hN hr hname hP => ?_)
  have X : CX k cL_kindOf RL := X
  have htr := C.2.2.2.1
  obtain ⟨h1, h62, r, m1, hx, hk, hok, her⟩ := hP
  let T9 : Nat → QM → Prop := fun e m' => ∃ cd, mpD e = some cd ∧ ∀ n, qtop m' ≤ n → R (.ok (some (.int (I cd)))) (stop m' n)
  have hTp : THp k 4 T9 := by
    intro e mm9 H locs ls rest ce q9 a9 b9 hT9 z9 hn9 hl9 hls9 hq9 hv9 hc9 ha9 hb9
    obtain ⟨cd, hcd, hR9⟩ := hT9
    unfold mpD at hcd
    by_cases e1 : e = 1
    · subst e1
      have hcd : some (1 : Int) = some cd := hcd
      cases hcd
      refine t_catch (e := 1) (hh := [(0, 9, 12, 13)]) (pre := []) (suf := []) X C.2.1 rfl (by decide) (by decide) (by decide) (qW_at 195 (by decide +kernel) rfl) (qN_at 207 (by decide +kernel) rfl) (fun z hz => absurd hz List.not_mem_nil) (fun q n a b hn ha hb => ?_) H locs ls rest ce q9 a9 b9 z9 hn9 hl9 hls9 hq9 hv9 hc9 ha9 hb9
      refine t_as (env' := [(3, .ref q)]) X dL_kindOf_12 rfl (by rw [hN]; decide) rfl ?_
      refine g_iconst (v := I 1) X dL_kindOf_13 rfl ?_
      exact h_iret X C hr rfl dL_kindOf_14 ha hb (hR9 n hn)
    · rw [if_neg e1] at hcd
      exact absurd hcd (by simp)
  have h62' := hk.ty62 h62
  refine t_al 2 X dL_kindOf_0 rfl rfl ?_
  refine g_iconst (v := I 0) X dL_kindOf_1 rfl ?_
  refine t_al 0 X dL_kindOf_2 rfl rfl ?_
  refine g_iload_n 1 X dL_kindOf_3 rfl rfl ?_
  refine p_callV (st := [.int (I 0), .ref (sv + 62)]) (q := sv) (av := [.int p0]) (T := T9) X hTp htr rfl h1 (M_X6_kindOf sv p0) lk_X6_kindOf im_X6_kindOf se_X6_kindOf (qW_at 818 (by decide +kernel) rfl) rfl (by rw [hR]; exact ⟨Nat.le_of_ble_eq_true rfl, Nat.le_of_ble_eq_true rfl⟩) (by exact Nat.le_of_ble_eq_true rfl) (by rw [hR]; exact ⟨Nat.le_of_ble_eq_true rfl, Nat.le_of_ble_eq_true rfl⟩) dL_kindOf_4 (by rfl) ?_
  unfold qwp
  rw [hx]
  cases r with
  | error e => exact her e rfl
  | ok v =>
    show GG k _ (.int v :: .int (I 0) :: .ref (sv + 62) :: []) m1 _ _ _
    refine g_i2l X dL_kindOf_7 ?_
    refine g_last (q := sv + 62) (n := 1) X h62' (by intro q; rcases q with q | q <;> exact absurd q (by decide)) dL_kindOf_8 ?_
    rw [show (I 0).toNatClampNeg = 0 from by decide]
    refine g_goto (tgt := 15) X dL_kindOf_9 (by decide) ?_
    refine g_iconst (v := I 0) X dL_kindOf_15 rfl ?_
    exact h_iret X C hr rfl dL_kindOf_16 (by rw [hR]; exact Nat.le_of_ble_eq_true rfl) (by rw [hR]; exact Nat.le_of_ble_eq_true rfl) ((hok v rfl).2)
theorem dL_receiver_0 : decode cL_receiver 0 = .ok (.aload_n 2, 1) := by decide +kernel
theorem dL_receiver_1 : decode cL_receiver 1 = .ok (.iconst 0, 1) := by decide +kernel
theorem dL_receiver_2 : decode cL_receiver 2 = .ok (.aload_n 0, 1) := by decide +kernel
theorem dL_receiver_3 : decode cL_receiver 3 = .ok (.iload_n 1, 1) := by decide +kernel
theorem dL_receiver_4 : decode cL_receiver 4 = .ok (.invokevirtual 82, 3) := by decide +kernel
theorem dL_receiver_7 : decode cL_receiver 7 = .ok (.i2l, 1) := by decide +kernel
theorem dL_receiver_8 : decode cL_receiver 8 = .ok (.lastore, 1) := by decide +kernel
theorem dL_receiver_9 : decode cL_receiver 9 = .ok (.goto 6, 3) := by decide +kernel
theorem dL_receiver_12 : decode cL_receiver 12 = .ok (.astore_n 3, 1) := by decide +kernel
theorem dL_receiver_13 : decode cL_receiver 13 = .ok (.iconst 1, 1) := by decide +kernel
theorem dL_receiver_14 : decode cL_receiver 14 = .ok (.ireturn, 1) := by decide +kernel
theorem dL_receiver_15 : decode cL_receiver 15 = .ok (.iconst 0, 1) := by decide +kernel
theorem dL_receiver_16 : decode cL_receiver 16 = .ok (.ireturn, 1) := by decide +kernel
theorem lkh_receiver : LKH yL_receiver cL_receiver 4 (some .int) [(0, 9, 12, 13)] 3 := ⟨(qW_at 824 (by decide +kernel) rfl), (qW_at 74 (by decide +kernel) rfl), by decide, by decide, by decide +kernel⟩
theorem stl_receiver : Cond.static yL_receiver ∈ qW := (qW_at 823 (by decide +kernel) rfl)
set_option maxRecDepth 100000 in
set_option maxHeartbeats 1600000 in
theorem E_L_receiver (sv : Nat) (p0 : Int32) : MEH yL_receiver cL_receiver 4 (some .int) [(0, 9, 12, 13)] 8 123 1 6 (fun DA => [.ref sv, .int p0, .ref (sv + 62)]) (fun DA mm R => qty mm sv = (1, 7, 0) ∧ qty mm (sv + 62) = (3, 0, 1) ∧ ∃ r m1, F_X6_receiver sv p0 mm = some (r, m1) ∧ KP sv mm m1 ∧ (∀ v, r = .ok v → True ∧ R (.ok (some (.int (I 0)))) (sal m1 (sv + 62) 0 v.toInt64)) ∧ (∀ e0, r = .error e0 → ∃ cd, mpD e0 = some cd ∧ ∀ n, qtop m1 ≤ n → R (.ok (some (.int (I cd)))) (stop m1 n))) := by
  refine MEH_of (env0 := fun DA => [(0, .ref sv), (1, .int p0), (2, .ref (sv + 62))]) (by decide) (fun DA => by exact Nat.le_of_ble_eq_true rfl) (fun DA => by rfl) (fun k mm R X C hR hN hr hname hP => ?_)
  have X : CX k cL_receiver RL := X
  have htr := C.2.2.2.1
  obtain ⟨h1, h62, r, m1, hx, hk, hok, her⟩ := hP
  let T9 : Nat → QM → Prop := fun e m' => ∃ cd, mpD e = some cd ∧ ∀ n, qtop m' ≤ n → R (.ok (some (.int (I cd)))) (stop m' n)
  have hTp : THp k 4 T9 := by
    intro e mm9 H locs ls rest ce q9 a9 b9 hT9 z9 hn9 hl9 hls9 hq9 hv9 hc9 ha9 hb9
    obtain ⟨cd, hcd, hR9⟩ := hT9
    unfold mpD at hcd
    by_cases e1 : e = 1
    · subst e1
      have hcd : some (1 : Int) = some cd := hcd
      cases hcd
      refine t_catch (e := 1) (hh := [(0, 9, 12, 13)]) (pre := []) (suf := []) X C.2.1 rfl (by decide) (by decide) (by decide) (qW_at 195 (by decide +kernel) rfl) (qN_at 207 (by decide +kernel) rfl) (fun z hz => absurd hz List.not_mem_nil) (fun q n a b hn ha hb => ?_) H locs ls rest ce q9 a9 b9 z9 hn9 hl9 hls9 hq9 hv9 hc9 ha9 hb9
      refine t_as (env' := [(3, .ref q)]) X dL_receiver_12 rfl (by rw [hN]; decide) rfl ?_
      refine g_iconst (v := I 1) X dL_receiver_13 rfl ?_
      exact h_iret X C hr rfl dL_receiver_14 ha hb (hR9 n hn)
    · rw [if_neg e1] at hcd
      exact absurd hcd (by simp)
  have h62' := hk.ty62 h62
  refine t_al 2 X dL_receiver_0 rfl rfl ?_
  refine g_iconst (v := I 0) X dL_receiver_1 rfl ?_
  refine t_al 0 X dL_receiver_2 rfl rfl ?_
  refine g_iload_n 1 X dL_receiver_3 rfl rfl ?_
  refine p_callV (st := [.int (I 0), .ref (sv + 62)]) (q := sv) (av := [.int p0]) (T := T9) X hTp htr rfl h1 (M_X6_receiver sv p0) lk_X6_receiver im_X6_receiver se_X6_receiver (qW_at 825 (by decide +kernel) rfl) rfl (by rw [hR]; exact ⟨Nat.le_of_ble_eq_true rfl, Nat.le_of_ble_eq_true rfl⟩) (by exact Nat.le_of_ble_eq_true rfl) (by rw [hR]; exact ⟨Nat.le_of_ble_eq_true rfl, Nat.le_of_ble_eq_true rfl⟩) dL_receiver_4 (by rfl) ?_
  unfold qwp
  rw [hx]
  cases r with
  | error e => exact her e rfl
  | ok v =>
    show GG k _ (.int v :: .int (I 0) :: .ref (sv + 62) :: []) m1 _ _ _
    refine g_i2l X dL_receiver_7 ?_
    refine g_last (q := sv + 62) (n := 1) X h62' (by intro q; rcases q with q | q <;> exact absurd q (by decide)) dL_receiver_8 ?_
    rw [show (I 0).toNatClampNeg = 0 from by decide]
    refine g_goto (tgt := 15) X dL_receiver_9 (by decide) ?_
    refine g_iconst (v := I 0) X dL_receiver_15 rfl ?_
    exact h_iret X C hr rfl dL_receiver_16 (by rw [hR]; exact Nat.le_of_ble_eq_true rfl) (by rw [hR]; exact Nat.le_of_ble_eq_true rfl) ((hok v rfl).2)
theorem dL_lineLength_0 : decode cL_lineLength 0 = .ok (.aload_n 2, 1) := by decide +kernel
theorem dL_lineLength_1 : decode cL_lineLength 1 = .ok (.iconst 0, 1) := by decide +kernel
theorem dL_lineLength_2 : decode cL_lineLength 2 = .ok (.aload_n 0, 1) := by decide +kernel
theorem dL_lineLength_3 : decode cL_lineLength 3 = .ok (.iload_n 1, 1) := by decide +kernel
theorem dL_lineLength_4 : decode cL_lineLength 4 = .ok (.invokevirtual 85, 3) := by decide +kernel
theorem dL_lineLength_7 : decode cL_lineLength 7 = .ok (.i2l, 1) := by decide +kernel
theorem dL_lineLength_8 : decode cL_lineLength 8 = .ok (.lastore, 1) := by decide +kernel
theorem dL_lineLength_9 : decode cL_lineLength 9 = .ok (.goto 6, 3) := by decide +kernel
theorem dL_lineLength_12 : decode cL_lineLength 12 = .ok (.astore_n 3, 1) := by decide +kernel
theorem dL_lineLength_13 : decode cL_lineLength 13 = .ok (.iconst 1, 1) := by decide +kernel
theorem dL_lineLength_14 : decode cL_lineLength 14 = .ok (.ireturn, 1) := by decide +kernel
theorem dL_lineLength_15 : decode cL_lineLength 15 = .ok (.iconst 0, 1) := by decide +kernel
theorem dL_lineLength_16 : decode cL_lineLength 16 = .ok (.ireturn, 1) := by decide +kernel
theorem lkh_lineLength : LKH yL_lineLength cL_lineLength 4 (some .int) [(0, 9, 12, 13)] 3 := ⟨(qW_at 831 (by decide +kernel) rfl), (qW_at 74 (by decide +kernel) rfl), by decide, by decide, by decide +kernel⟩
theorem stl_lineLength : Cond.static yL_lineLength ∈ qW := (qW_at 830 (by decide +kernel) rfl)
set_option maxRecDepth 100000 in
set_option maxHeartbeats 1600000 in
theorem E_L_lineLength (sv : Nat) (G : GM) (S : MS) (t kk : Int) : MEH yL_lineLength cL_lineLength 4 (some .int) [(0, 9, 12, 13)] 8 176 13 366 (fun DA => [.ref sv, .int (I kk), .ref (sv + 62)]) (fun DA mm R => CR sv G S mm ∧ SI t S ∧ t ≤ 600 ∧ (-2147483648 ≤ kk ∧ kk < 2147483648) ∧ qty mm (sv + 62) = (3, 0, 1) ∧ (if gK S kk = true then ∀ m', GROW mm m' → R (.ok (some (.int (I 0)))) (sal m' (sv + 62) 0 (I (((lineL S kk).length : Nat) : Int)).toInt64) else ∀ n, qtop mm ≤ n → R (.ok (some (.int (I 1)))) (stop mm n))) := by
  refine MEH_of (env0 := fun DA => [(0, .ref sv), (1, .int (I kk)), (2, .ref (sv + 62))]) (by decide) (fun DA => by exact Nat.le_of_ble_eq_true rfl) (fun DA => by rfl) (fun k mm R X C hR hN hr hname hP => ?_)
  have X : CX k cL_lineLength RL := X
  have htr := C.2.2.2.1
  obtain ⟨hC, hs, ht, hk, h62, h⟩ := hP
  let T9 : Nat → QM → Prop := fun e m' => e = 1 ∧ ∀ n, qtop m' ≤ n → R (.ok (some (.int (I 1)))) (stop m' n)
  have hTp : THp k 4 T9 := by
    intro e mm9 H locs ls rest ce q9 a9 b9 hT9 z9 hn9 hl9 hls9 hq9 hv9 hc9 ha9 hb9
    obtain ⟨rfl, hR9⟩ := hT9
    refine t_catch (e := 1) (hh := [(0, 9, 12, 13)]) (pre := []) (suf := []) X C.2.1 rfl (by decide) (by decide) (by decide) (qW_at 195 (by decide +kernel) rfl) (qN_at 207 (by decide +kernel) rfl) (fun z hz => absurd hz List.not_mem_nil) (fun q n a b hn ha hb => ?_) H locs ls rest ce q9 a9 b9 z9 hn9 hl9 hls9 hq9 hv9 hc9 ha9 hb9
    refine t_as (env' := [(3, .ref q)]) X dL_lineLength_12 rfl (by rw [hN]; decide) rfl ?_
    refine g_iconst (v := I 1) X dL_lineLength_13 rfl ?_
    exact h_iret X C hr rfl dL_lineLength_14 ha hb (hR9 n hn)
  refine t_al 2 X dL_lineLength_0 rfl rfl ?_
  refine g_iconst (v := I 0) X dL_lineLength_1 rfl ?_
  refine t_al 0 X dL_lineLength_2 rfl rfl ?_
  refine g_iload_n 1 X dL_lineLength_3 rfl rfl ?_
  let R1 : RX := (fun r m' => (gK S kk = true ∧ r = .ok (some (.int (I (((lineL S kk).length : Nat) : Int)))) ∧ GROW mm m') ∨ (¬ gK S kk = true ∧ r = .error 1 ∧ m' = mm))
  have hPE : (if gK S kk = true then ∀ m', GROW mm m' → R1 (.ok (some (.int (I (((lineL S kk).length : Nat) : Int))))) m' else R1 (.error 1) mm) := by
    by_cases g : gK S kk = true
    · rw [if_pos g]; exact fun m' q => Or.inl ⟨g, rfl, q⟩
    · rw [if_neg g]; exact Or.inr ⟨g, rfl, rfl⟩
  refine p_callE R1 (st := [.int (I 0), .ref (sv + 62)]) (q := sv) (as := [.int (I kk)]) (T := T9) X hTp htr rfl hC.cf.ty (E_X6_lineLength sv G S t kk) lk_X6_lineLength im_X6_lineLength (qW_at 834 (by decide +kernel) rfl) (qW_at 832 (by decide +kernel) rfl) rfl rfl (by rw [hR]; exact ⟨Nat.le_of_ble_eq_true rfl, Nat.le_of_ble_eq_true rfl⟩) (by exact Nat.le_of_ble_eq_true rfl) (by rw [hR]; exact ⟨Nat.le_of_ble_eq_true rfl, Nat.le_of_ble_eq_true rfl⟩) dL_lineLength_4 (by rfl) (⟨hC, hs, ht, hk, hPE⟩) (fun e m1 q => ?_) (fun v m1 q => ?_)
  · rcases q with ⟨_, q, _⟩ | ⟨g, q, rfl⟩
    · cases q
    · cases q; rw [if_neg g] at h; exact ⟨rfl, h⟩
  · rcases q with ⟨g, q, hg⟩ | ⟨_, q, _⟩
    case inr => cases q
    cases q
    rw [if_pos g] at h
    have hR1 := h m1 hg
    have h62' : qty m1 (sv + 62) = (3, 0, 1) := (hg.ty (sv + 62) (hC.lt62 h62)).trans h62
    show GG k _ (.int (I (((lineL S kk).length : Nat) : Int)) :: .int (I 0) :: .ref (sv + 62) :: []) m1 _ _ _
    refine g_i2l X dL_lineLength_7 ?_
    refine g_last (q := sv + 62) (n := 1) X h62' (by intro q; rcases q with q | q <;> exact absurd q (by decide)) dL_lineLength_8 ?_
    rw [show (I 0).toNatClampNeg = 0 from by decide]
    refine g_goto (tgt := 15) X dL_lineLength_9 (by decide) ?_
    refine g_iconst (v := I 0) X dL_lineLength_15 rfl ?_
    exact h_iret X C hr rfl dL_lineLength_16 (by rw [hR]; exact Nat.le_of_ble_eq_true rfl) (by rw [hR]; exact Nat.le_of_ble_eq_true rfl) (hR1)
