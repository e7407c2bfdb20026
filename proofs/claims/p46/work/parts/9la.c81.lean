/-! the bytes of the law's own methods that ask the server -/
theorem dL_setOffset_0 : decode cL_setOffset 0 = .ok (.aload_n 0, 1) := by decide +kernel
theorem dL_setOffset_1 : decode cL_setOffset 1 = .ok (.iload_n 1, 1) := by decide +kernel
theorem dL_setOffset_2 : decode cL_setOffset 2 = .ok (.iload_n 2, 1) := by decide +kernel
theorem dL_setOffset_3 : decode cL_setOffset 3 = .ok (.invokevirtual 10, 3) := by decide +kernel
theorem dL_setOffset_6 : decode cL_setOffset 6 = .ok (.ireturn, 1) := by decide +kernel
theorem dL_setOffset_7 : decode cL_setOffset 7 = .ok (.astore_n 3, 1) := by decide +kernel
theorem dL_setOffset_8 : decode cL_setOffset 8 = .ok (.ldc 18, 2) := by decide +kernel
theorem dL_setOffset_10 : decode cL_setOffset 10 = .ok (.ireturn, 1) := by decide +kernel
theorem dL_setOffset_11 : decode cL_setOffset 11 = .ok (.astore_n 3, 1) := by decide +kernel
theorem dL_setOffset_12 : decode cL_setOffset 12 = .ok (.ldc 21, 2) := by decide +kernel
theorem dL_setOffset_14 : decode cL_setOffset 14 = .ok (.ireturn, 1) := by decide +kernel
theorem lkh_setOffset : LKH yL_setOffset cL_setOffset 4 (some .int) [(0, 6, 7, 16), (0, 6, 11, 19)] 3 := ⟨(qW_at 1041 (by decide +kernel) rfl), (qW_at 28 (by decide +kernel) rfl), by decide, by decide, by decide +kernel⟩
theorem stl_setOffset : Cond.static yL_setOffset ∈ qW := (qW_at 1040 (by decide +kernel) rfl)
set_option maxRecDepth 100000 in
set_option maxHeartbeats 1600000 in
theorem E0_L_setOffset (sv : Nat) (p0 p1 : Int32) : MEH yL_setOffset cL_setOffset 4 (some .int) [(0, 6, 7, 16), (0, 6, 11, 19)] 9 147 2 12 (fun _ => [.ref sv, .int p0, .int p1]) (fun _ mm R => PW0 sv (F_X6_setOffset sv p0 p1) (fun v => True) mpB mm R) := by
  refine MEH_of (env0 := fun _ => [(0, .ref sv), (1, .int p0), (2, .int p1)]) (by decide) (fun _ => by exact Nat.le_of_ble_eq_true rfl) (fun _ => by rfl) (fun k mm R X C hR hN hr hname hP => ?_)
  have X : CX k cL_setOffset RL := X
  have htr := C.2.2.2.1
  obtain ⟨h1, r, m1, hx, hok, her⟩ := hP
  let T9 : Nat → QM → Prop := fun e m' => ∃ cd, mpB e = some cd ∧ ∀ n, qtop m' ≤ n → R (.ok (some (.int cd))) (stop m' n)
  have hTp : THp k 3 T9 := by
    intro e mm9 H locs ls rest ce q9 a9 b9 hT9 z9 hn9 hl9 hls9 hq9 hv9 hc9 ha9 hb9
    obtain ⟨cd, hcd, hR9⟩ := hT9
    unfold mpB at hcd
    by_cases e1 : e = 1
    · subst e1
      have hcd : some (-1000001 : Int32) = some cd := hcd
      cases hcd
      refine t_catch (e := 1) (hh := [(0, 6, 7, 16), (0, 6, 11, 19)]) (pre := []) (suf := [(0, 6, 11, 19)]) X C.2.1 rfl (by decide) (by decide) (by decide) (qW_at 301 (by decide +kernel) rfl) (qN_at 311 (by decide +kernel) rfl) (fun z hz => absurd hz List.not_mem_nil) (fun q n a b hn ha hb => ?_) H locs ls rest ce q9 a9 b9 z9 hn9 hl9 hls9 hq9 hv9 hc9 ha9 hb9
      refine t_as (env' := [(3, .ref q)]) X dL_setOffset_7 rfl (by rw [hN]; decide) rfl ?_
      refine g_ldc (v := (-1000001)) X dL_setOffset_8 (qW_at 324 (by decide +kernel) rfl) ?_
      exact h_iret X C hr rfl dL_setOffset_10 ha hb (hR9 n hn)
    · rw [if_neg e1] at hcd
      by_cases e2 : e = 2
      · subst e2
        have hcd : some (-1000002 : Int32) = some cd := hcd
        cases hcd
        refine t_catch (e := 2) (hh := [(0, 6, 7, 16), (0, 6, 11, 19)]) (pre := [(0, 6, 7, 16)]) (suf := []) X C.2.1 rfl (by decide) (by decide) (by decide) (qW_at 153 (by decide +kernel) rfl) (qN_at 169 (by decide +kernel) rfl) (fun z hz => by
          simp only [List.mem_cons, List.mem_nil_iff, or_false] at hz
          rcases hz with rfl
          · exact ⟨by decide, 1, by decide, by decide, (qW_at 301 (by decide +kernel) rfl)⟩) (fun q n a b hn ha hb => ?_) H locs ls rest ce q9 a9 b9 z9 hn9 hl9 hls9 hq9 hv9 hc9 ha9 hb9
        refine t_as (env' := [(3, .ref q)]) X dL_setOffset_11 rfl (by rw [hN]; decide) rfl ?_
        refine g_ldc (v := (-1000002)) X dL_setOffset_12 (qW_at 297 (by decide +kernel) rfl) ?_
        exact h_iret X C hr rfl dL_setOffset_14 ha hb (hR9 n hn)
      · rw [if_neg e2] at hcd
        exact absurd hcd (by simp)
  refine t_al 0 X dL_setOffset_0 rfl rfl ?_
  refine g_iload_n 1 X dL_setOffset_1 rfl rfl ?_
  refine g_iload_n 2 X dL_setOffset_2 rfl rfl ?_
  refine p_callV (st := []) (q := sv) (av := [.int p0, .int p1]) (T := T9) X hTp htr rfl h1 (M_X6_setOffset sv p0 p1) lk_X6_setOffset im_X6_setOffset se_X6_setOffset (qW_at 1042 (by decide +kernel) rfl) rfl (by rw [hR]; exact ⟨Nat.le_of_ble_eq_true rfl, Nat.le_of_ble_eq_true rfl⟩) (by exact Nat.le_of_ble_eq_true rfl) (by rw [hR]; exact ⟨Nat.le_of_ble_eq_true rfl, Nat.le_of_ble_eq_true rfl⟩) dL_setOffset_3 (by rfl) ?_
  unfold qwp
  rw [hx]
  cases r with
  | error e => exact her e rfl
  | ok v =>
    show GG k _ (.int v :: []) m1 _ _ _
    exact h_iret X C hr rfl dL_setOffset_6 (by rw [hR]; exact Nat.le_of_ble_eq_true rfl) (by rw [hR]; exact Nat.le_of_ble_eq_true rfl) ((hok v rfl).2)
theorem dL_setSummer_0 : decode cL_setSummer 0 = .ok (.aload_n 0, 1) := by decide +kernel
theorem dL_setSummer_1 : decode cL_setSummer 1 = .ok (.iload_n 1, 1) := by decide +kernel
theorem dL_setSummer_2 : decode cL_setSummer 2 = .ok (.iload_n 2, 1) := by decide +kernel
theorem dL_setSummer_3 : decode cL_setSummer 3 = .ok (.iload_n 3, 1) := by decide +kernel
theorem dL_setSummer_4 : decode cL_setSummer 4 = .ok (.invokevirtual 22, 3) := by decide +kernel
theorem dL_setSummer_7 : decode cL_setSummer 7 = .ok (.ireturn, 1) := by decide +kernel
theorem dL_setSummer_8 : decode cL_setSummer 8 = .ok (.astore 4, 2) := by decide +kernel
theorem dL_setSummer_10 : decode cL_setSummer 10 = .ok (.ldc 18, 2) := by decide +kernel
theorem dL_setSummer_12 : decode cL_setSummer 12 = .ok (.ireturn, 1) := by decide +kernel
theorem dL_setSummer_13 : decode cL_setSummer 13 = .ok (.astore 4, 2) := by decide +kernel
theorem dL_setSummer_15 : decode cL_setSummer 15 = .ok (.ldc 21, 2) := by decide +kernel
theorem dL_setSummer_17 : decode cL_setSummer 17 = .ok (.ireturn, 1) := by decide +kernel
theorem lkh_setSummer : LKH yL_setSummer cL_setSummer 5 (some .int) [(0, 7, 8, 16), (0, 7, 13, 19)] 4 := ⟨(qW_at 1048 (by decide +kernel) rfl), (qW_at 28 (by decide +kernel) rfl), by decide, by decide, by decide +kernel⟩
theorem stl_setSummer : Cond.static yL_setSummer ∈ qW := (qW_at 1047 (by decide +kernel) rfl)
set_option maxRecDepth 100000 in
set_option maxHeartbeats 1600000 in
theorem E0_L_setSummer (sv : Nat) (p0 p1 p2 : Int32) : MEH yL_setSummer cL_setSummer 5 (some .int) [(0, 7, 8, 16), (0, 7, 13, 19)] 9 148 3 18 (fun _ => [.ref sv, .int p0, .int p1, .int p2]) (fun _ mm R => PW0 sv (F_X6_setSummer sv p0 p1 p2) (fun v => True) mpB mm R) := by
  refine MEH_of (env0 := fun _ => [(0, .ref sv), (1, .int p0), (2, .int p1), (3, .int p2)]) (by decide) (fun _ => by exact Nat.le_of_ble_eq_true rfl) (fun _ => by rfl) (fun k mm R X C hR hN hr hname hP => ?_)
  have X : CX k cL_setSummer RL := X
  have htr := C.2.2.2.1
  obtain ⟨h1, r, m1, hx, hok, her⟩ := hP
  let T9 : Nat → QM → Prop := fun e m' => ∃ cd, mpB e = some cd ∧ ∀ n, qtop m' ≤ n → R (.ok (some (.int cd))) (stop m' n)
  have hTp : THp k 4 T9 := by
    intro e mm9 H locs ls rest ce q9 a9 b9 hT9 z9 hn9 hl9 hls9 hq9 hv9 hc9 ha9 hb9
    obtain ⟨cd, hcd, hR9⟩ := hT9
    unfold mpB at hcd
    by_cases e1 : e = 1
    · subst e1
      have hcd : some (-1000001 : Int32) = some cd := hcd
      cases hcd
      refine t_catch (e := 1) (hh := [(0, 7, 8, 16), (0, 7, 13, 19)]) (pre := []) (suf := [(0, 7, 13, 19)]) X C.2.1 rfl (by decide) (by decide) (by decide) (qW_at 301 (by decide +kernel) rfl) (qN_at 311 (by decide +kernel) rfl) (fun z hz => absurd hz List.not_mem_nil) (fun q n a b hn ha hb => ?_) H locs ls rest ce q9 a9 b9 z9 hn9 hl9 hls9 hq9 hv9 hc9 ha9 hb9
      refine g_astore (r := some q) (env' := [(4, .ref q)]) X dL_setSummer_8 (by rw [hN]; decide) rfl ?_
      refine g_ldc (v := (-1000001)) X dL_setSummer_10 (qW_at 324 (by decide +kernel) rfl) ?_
      exact h_iret X C hr rfl dL_setSummer_12 ha hb (hR9 n hn)
    · rw [if_neg e1] at hcd
      by_cases e2 : e = 2
      · subst e2
        have hcd : some (-1000002 : Int32) = some cd := hcd
        cases hcd
        refine t_catch (e := 2) (hh := [(0, 7, 8, 16), (0, 7, 13, 19)]) (pre := [(0, 7, 8, 16)]) (suf := []) X C.2.1 rfl (by decide) (by decide) (by decide) (qW_at 153 (by decide +kernel) rfl) (qN_at 169 (by decide +kernel) rfl) (fun z hz => by
          simp only [List.mem_cons, List.mem_nil_iff, or_false] at hz
          rcases hz with rfl
          · exact ⟨by decide, 1, by decide, by decide, (qW_at 301 (by decide +kernel) rfl)⟩) (fun q n a b hn ha hb => ?_) H locs ls rest ce q9 a9 b9 z9 hn9 hl9 hls9 hq9 hv9 hc9 ha9 hb9
        refine g_astore (r := some q) (env' := [(4, .ref q)]) X dL_setSummer_13 (by rw [hN]; decide) rfl ?_
        refine g_ldc (v := (-1000002)) X dL_setSummer_15 (qW_at 297 (by decide +kernel) rfl) ?_
        exact h_iret X C hr rfl dL_setSummer_17 ha hb (hR9 n hn)
      · rw [if_neg e2] at hcd
        exact absurd hcd (by simp)
  refine t_al 0 X dL_setSummer_0 rfl rfl ?_
  refine g_iload_n 1 X dL_setSummer_1 rfl rfl ?_
  refine g_iload_n 2 X dL_setSummer_2 rfl rfl ?_
  refine g_iload_n 3 X dL_setSummer_3 rfl rfl ?_
  refine p_callV (st := []) (q := sv) (av := [.int p0, .int p1, .int p2]) (T := T9) X hTp htr rfl h1 (M_X6_setSummer sv p0 p1 p2) lk_X6_setSummer im_X6_setSummer se_X6_setSummer (qW_at 1049 (by decide +kernel) rfl) rfl (by rw [hR]; exact ⟨Nat.le_of_ble_eq_true rfl, Nat.le_of_ble_eq_true rfl⟩) (by exact Nat.le_of_ble_eq_true rfl) (by rw [hR]; exact ⟨Nat.le_of_ble_eq_true rfl, Nat.le_of_ble_eq_true rfl⟩) dL_setSummer_4 (by rfl) ?_
  unfold qwp
  rw [hx]
  cases r with
  | error e => exact her e rfl
  | ok v =>
    show GG k _ (.int v :: []) m1 _ _ _
    exact h_iret X C hr rfl dL_setSummer_7 (by rw [hR]; exact Nat.le_of_ble_eq_true rfl) (by rw [hR]; exact Nat.le_of_ble_eq_true rfl) ((hok v rfl).2)
theorem dL_common_0 : decode cL_common 0 = .ok (.aload_n 0, 1) := by decide +kernel
theorem dL_common_1 : decode cL_common 1 = .ok (.iload_n 1, 1) := by decide +kernel
theorem dL_common_2 : decode cL_common 2 = .ok (.iload_n 2, 1) := by decide +kernel
theorem dL_common_3 : decode cL_common 3 = .ok (.invokevirtual 26, 3) := by decide +kernel
theorem dL_common_6 : decode cL_common 6 = .ok (.ireturn, 1) := by decide +kernel
theorem dL_common_7 : decode cL_common 7 = .ok (.astore_n 3, 1) := by decide +kernel
theorem dL_common_8 : decode cL_common 8 = .ok (.ldc 18, 2) := by decide +kernel
theorem dL_common_10 : decode cL_common 10 = .ok (.ireturn, 1) := by decide +kernel
theorem dL_common_11 : decode cL_common 11 = .ok (.astore_n 3, 1) := by decide +kernel
theorem dL_common_12 : decode cL_common 12 = .ok (.ldc 21, 2) := by decide +kernel
theorem dL_common_14 : decode cL_common 14 = .ok (.ireturn, 1) := by decide +kernel
theorem lkh_common : LKH yL_common cL_common 4 (some .int) [(0, 6, 7, 16), (0, 6, 11, 19)] 3 := ⟨(qW_at 391 (by decide +kernel) rfl), (qW_at 28 (by decide +kernel) rfl), by decide, by decide, by decide +kernel⟩
theorem stl_common : Cond.static yL_common ∈ qW := (qW_at 390 (by decide +kernel) rfl)
set_option maxRecDepth 100000 in
set_option maxHeartbeats 1600000 in
theorem E0_L_common (sv : Nat) (p0 p1 : Int32) : MEH yL_common cL_common 4 (some .int) [(0, 6, 7, 16), (0, 6, 11, 19)] 9 146 2 12 (fun _ => [.ref sv, .int p0, .int p1]) (fun _ mm R => PW0 sv (F_X6_common sv p0 p1) (fun v => True) mpB mm R) := by
  refine MEH_of (env0 := fun _ => [(0, .ref sv), (1, .int p0), (2, .int p1)]) (by decide) (fun _ => by exact Nat.le_of_ble_eq_true rfl) (fun _ => by rfl) (fun k mm R X C hR hN hr hname hP => ?_)
  have X : CX k cL_common RL := X
  have htr := C.2.2.2.1
  obtain ⟨h1, r, m1, hx, hok, her⟩ := hP
  let T9 : Nat → QM → Prop := fun e m' => ∃ cd, mpB e = some cd ∧ ∀ n, qtop m' ≤ n → R (.ok (some (.int cd))) (stop m' n)
  have hTp : THp k 3 T9 := by
    intro e mm9 H locs ls rest ce q9 a9 b9 hT9 z9 hn9 hl9 hls9 hq9 hv9 hc9 ha9 hb9
    obtain ⟨cd, hcd, hR9⟩ := hT9
    unfold mpB at hcd
    by_cases e1 : e = 1
    · subst e1
      have hcd : some (-1000001 : Int32) = some cd := hcd
      cases hcd
      refine t_catch (e := 1) (hh := [(0, 6, 7, 16), (0, 6, 11, 19)]) (pre := []) (suf := [(0, 6, 11, 19)]) X C.2.1 rfl (by decide) (by decide) (by decide) (qW_at 301 (by decide +kernel) rfl) (qN_at 311 (by decide +kernel) rfl) (fun z hz => absurd hz List.not_mem_nil) (fun q n a b hn ha hb => ?_) H locs ls rest ce q9 a9 b9 z9 hn9 hl9 hls9 hq9 hv9 hc9 ha9 hb9
      refine t_as (env' := [(3, .ref q)]) X dL_common_7 rfl (by rw [hN]; decide) rfl ?_
      refine g_ldc (v := (-1000001)) X dL_common_8 (qW_at 324 (by decide +kernel) rfl) ?_
      exact h_iret X C hr rfl dL_common_10 ha hb (hR9 n hn)
    · rw [if_neg e1] at hcd
      by_cases e2 : e = 2
      · subst e2
        have hcd : some (-1000002 : Int32) = some cd := hcd
        cases hcd
        refine t_catch (e := 2) (hh := [(0, 6, 7, 16), (0, 6, 11, 19)]) (pre := [(0, 6, 7, 16)]) (suf := []) X C.2.1 rfl (by decide) (by decide) (by decide) (qW_at 153 (by decide +kernel) rfl) (qN_at 169 (by decide +kernel) rfl) (fun z hz => by
          simp only [List.mem_cons, List.mem_nil_iff, or_false] at hz
          rcases hz with rfl
          · exact ⟨by decide, 1, by decide, by decide, (qW_at 301 (by decide +kernel) rfl)⟩) (fun q n a b hn ha hb => ?_) H locs ls rest ce q9 a9 b9 z9 hn9 hl9 hls9 hq9 hv9 hc9 ha9 hb9
        refine t_as (env' := [(3, .ref q)]) X dL_common_11 rfl (by rw [hN]; decide) rfl ?_
        refine g_ldc (v := (-1000002)) X dL_common_12 (qW_at 297 (by decide +kernel) rfl) ?_
        exact h_iret X C hr rfl dL_common_14 ha hb (hR9 n hn)
      · rw [if_neg e2] at hcd
        exact absurd hcd (by simp)
  refine t_al 0 X dL_common_0 rfl rfl ?_
  refine g_iload_n 1 X dL_common_1 rfl rfl ?_
  refine g_iload_n 2 X dL_common_2 rfl rfl ?_
  refine p_callV (st := []) (q := sv) (av := [.int p0, .int p1]) (T := T9) X hTp htr rfl h1 (M_X6_common sv p0 p1) lk_X6_common im_X6_common se_X6_common (qW_at 392 (by decide +kernel) rfl) rfl (by rw [hR]; exact ⟨Nat.le_of_ble_eq_true rfl, Nat.le_of_ble_eq_true rfl⟩) (by exact Nat.le_of_ble_eq_true rfl) (by rw [hR]; exact ⟨Nat.le_of_ble_eq_true rfl, Nat.le_of_ble_eq_true rfl⟩) dL_common_3 (by rfl) ?_
  unfold qwp
  rw [hx]
  cases r with
  | error e => exact her e rfl
  | ok v =>
    show GG k _ (.int v :: []) m1 _ _ _
    exact h_iret X C hr rfl dL_common_6 (by rw [hR]; exact Nat.le_of_ble_eq_true rfl) (by rw [hR]; exact Nat.le_of_ble_eq_true rfl) ((hok v rfl).2)
theorem dL_local_0 : decode cL_local 0 = .ok (.aload_n 0, 1) := by decide +kernel
theorem dL_local_1 : decode cL_local 1 = .ok (.iload_n 1, 1) := by decide +kernel
theorem dL_local_2 : decode cL_local 2 = .ok (.iload_n 2, 1) := by decide +kernel
theorem dL_local_3 : decode cL_local 3 = .ok (.invokevirtual 29, 3) := by decide +kernel
theorem dL_local_6 : decode cL_local 6 = .ok (.ireturn, 1) := by decide +kernel
theorem dL_local_7 : decode cL_local 7 = .ok (.astore_n 3, 1) := by decide +kernel
theorem dL_local_8 : decode cL_local 8 = .ok (.ldc 18, 2) := by decide +kernel
theorem dL_local_10 : decode cL_local 10 = .ok (.ireturn, 1) := by decide +kernel
theorem dL_local_11 : decode cL_local 11 = .ok (.astore_n 3, 1) := by decide +kernel
theorem dL_local_12 : decode cL_local 12 = .ok (.ldc 21, 2) := by decide +kernel
theorem dL_local_14 : decode cL_local 14 = .ok (.ireturn, 1) := by decide +kernel
theorem lkh_local : LKH yL_local cL_local 4 (some .int) [(0, 6, 7, 16), (0, 6, 11, 19)] 3 := ⟨(qW_at 376 (by decide +kernel) rfl), (qW_at 28 (by decide +kernel) rfl), by decide, by decide, by decide +kernel⟩
theorem stl_local : Cond.static yL_local ∈ qW := (qW_at 375 (by decide +kernel) rfl)
set_option maxRecDepth 100000 in
set_option maxHeartbeats 1600000 in
theorem E0_L_local (sv : Nat) (p0 p1 : Int32) : MEH yL_local cL_local 4 (some .int) [(0, 6, 7, 16), (0, 6, 11, 19)] 9 146 2 12 (fun _ => [.ref sv, .int p0, .int p1]) (fun _ mm R => PW0 sv (F_X6_local sv p0 p1) (fun v => True) mpB mm R) := by
  refine MEH_of (env0 := fun _ => [(0, .ref sv), (1, .int p0), (2, .int p1)]) (by decide) (fun _ => by exact Nat.le_of_ble_eq_true rfl) (fun _ => by rfl) (fun k mm R X C hR hN hr hname hP => ?_)
  have X : CX k cL_local RL := X
  have htr := C.2.2.2.1
  obtain ⟨h1, r, m1, hx, hok, her⟩ := hP
  let T9 : Nat → QM → Prop := fun e m' => ∃ cd, mpB e = some cd ∧ ∀ n, qtop m' ≤ n → R (.ok (some (.int cd))) (stop m' n)
  have hTp : THp k 3 T9 := by
    intro e mm9 H locs ls rest ce q9 a9 b9 hT9 z9 hn9 hl9 hls9 hq9 hv9 hc9 ha9 hb9
    obtain ⟨cd, hcd, hR9⟩ := hT9
    unfold mpB at hcd
    by_cases e1 : e = 1
    · subst e1
      have hcd : some (-1000001 : Int32) = some cd := hcd
      cases hcd
      refine t_catch (e := 1) (hh := [(0, 6, 7, 16), (0, 6, 11, 19)]) (pre := []) (suf := [(0, 6, 11, 19)]) X C.2.1 rfl (by decide) (by decide) (by decide) (qW_at 301 (by decide +kernel) rfl) (qN_at 311 (by decide +kernel) rfl) (fun z hz => absurd hz List.not_mem_nil) (fun q n a b hn ha hb => ?_) H locs ls rest ce q9 a9 b9 z9 hn9 hl9 hls9 hq9 hv9 hc9 ha9 hb9
      refine t_as (env' := [(3, .ref q)]) X dL_local_7 rfl (by rw [hN]; decide) rfl ?_
      refine g_ldc (v := (-1000001)) X dL_local_8 (qW_at 324 (by decide +kernel) rfl) ?_
      exact h_iret X C hr rfl dL_local_10 ha hb (hR9 n hn)
    · rw [if_neg e1] at hcd
      by_cases e2 : e = 2
      · subst e2
        have hcd : some (-1000002 : Int32) = some cd := hcd
        cases hcd
        refine t_catch (e := 2) (hh := [(0, 6, 7, 16), (0, 6, 11, 19)]) (pre := [(0, 6, 7, 16)]) (suf := []) X C.2.1 rfl (by decide) (by decide) (by decide) (qW_at 153 (by decide +kernel) rfl) (qN_at 169 (by decide +kernel) rfl) (fun z hz => by
          simp only [List.mem_cons, List.mem_nil_iff, or_false] at hz
          rcases hz with rfl
          · exact ⟨by decide, 1, by decide, by decide, (qW_at 301 (by decide +kernel) rfl)⟩) (fun q n a b hn ha hb => ?_) H locs ls rest ce q9 a9 b9 z9 hn9 hl9 hls9 hq9 hv9 hc9 ha9 hb9
        refine t_as (env' := [(3, .ref q)]) X dL_local_11 rfl (by rw [hN]; decide) rfl ?_
        refine g_ldc (v := (-1000002)) X dL_local_12 (qW_at 297 (by decide +kernel) rfl) ?_
        exact h_iret X C hr rfl dL_local_14 ha hb (hR9 n hn)
      · rw [if_neg e2] at hcd
        exact absurd hcd (by simp)
  refine t_al 0 X dL_local_0 rfl rfl ?_
  refine g_iload_n 1 X dL_local_1 rfl rfl ?_
  refine g_iload_n 2 X dL_local_2 rfl rfl ?_
  refine p_callV (st := []) (q := sv) (av := [.int p0, .int p1]) (T := T9) X hTp htr rfl h1 (M_X6_local sv p0 p1) lk_X6_local im_X6_local se_X6_local (qW_at 377 (by decide +kernel) rfl) rfl (by rw [hR]; exact ⟨Nat.le_of_ble_eq_true rfl, Nat.le_of_ble_eq_true rfl⟩) (by exact Nat.le_of_ble_eq_true rfl) (by rw [hR]; exact ⟨Nat.le_of_ble_eq_true rfl, Nat.le_of_ble_eq_true rfl⟩) dL_local_3 (by rfl) ?_
  unfold qwp
  rw [hx]
  cases r with
  | error e => exact her e rfl
  | ok v =>
    show GG k _ (.int v :: []) m1 _ _ _
    exact h_iret X C hr rfl dL_local_6 (by rw [hR]; exact Nat.le_of_ble_eq_true rfl) (by rw [hR]; exact Nat.le_of_ble_eq_true rfl) ((hok v rfl).2)
theorem dL_make_0 : decode cL_make 0 = .ok (.aload_n 0, 1) := by decide +kernel
theorem dL_make_1 : decode cL_make 1 = .ok (.iload_n 1, 1) := by decide +kernel
theorem dL_make_2 : decode cL_make 2 = .ok (.iload_n 2, 1) := by decide +kernel
theorem dL_make_3 : decode cL_make 3 = .ok (.iload_n 3, 1) := by decide +kernel
theorem dL_make_4 : decode cL_make 4 = .ok (.iload 4, 2) := by decide +kernel
theorem dL_make_6 : decode cL_make 6 = .ok (.iload 5, 2) := by decide +kernel
theorem dL_make_8 : decode cL_make 8 = .ok (.invokevirtual 32, 3) := by decide +kernel
theorem dL_make_11 : decode cL_make 11 = .ok (.ireturn, 1) := by decide +kernel
theorem dL_make_12 : decode cL_make 12 = .ok (.astore 6, 2) := by decide +kernel
theorem dL_make_14 : decode cL_make 14 = .ok (.ldc 18, 2) := by decide +kernel
theorem dL_make_16 : decode cL_make 16 = .ok (.ireturn, 1) := by decide +kernel
theorem dL_make_17 : decode cL_make 17 = .ok (.astore 6, 2) := by decide +kernel
theorem dL_make_19 : decode cL_make 19 = .ok (.ldc 21, 2) := by decide +kernel
theorem dL_make_21 : decode cL_make 21 = .ok (.ireturn, 1) := by decide +kernel
theorem dL_make_22 : decode cL_make 22 = .ok (.astore 6, 2) := by decide +kernel
theorem dL_make_24 : decode cL_make 24 = .ok (.ldc 38, 2) := by decide +kernel
theorem dL_make_26 : decode cL_make 26 = .ok (.ireturn, 1) := by decide +kernel
theorem lkh_make : LKH yL_make cL_make 7 (some .int) [(0, 11, 12, 16), (0, 11, 17, 19), (0, 11, 22, 36)] 6 := ⟨(qW_at 893 (by decide +kernel) rfl), (qW_at 28 (by decide +kernel) rfl), by decide, by decide, by decide +kernel⟩
theorem stl_make : Cond.static yL_make ∈ qW := (qW_at 892 (by decide +kernel) rfl)
set_option maxRecDepth 100000 in
set_option maxHeartbeats 1600000 in
theorem E0_L_make (sv : Nat) (p0 p1 p2 p3 p4 : Int32) : MEH yL_make cL_make 7 (some .int) [(0, 11, 12, 16), (0, 11, 17, 19), (0, 11, 22, 36)] 10 172 16 861 (fun _ => [.ref sv, .int p0, .int p1, .int p2, .int p3, .int p4]) (fun _ mm R => PW0 sv (F_X6_make sv p0 p1 p2 p3 p4) (fun v => True) mpA mm R) := by
  refine MEH_of (env0 := fun _ => [(0, .ref sv), (1, .int p0), (2, .int p1), (3, .int p2), (4, .int p3), (5, .int p4)]) (by decide) (fun _ => by exact Nat.le_of_ble_eq_true rfl) (fun _ => by rfl) (fun k mm R X C hR hN hr hname hP => ?_)
  have X : CX k cL_make RL := X
  have htr := C.2.2.2.1
  obtain ⟨h1, r, m1, hx, hok, her⟩ := hP
  let T9 : Nat → QM → Prop := fun e m' => ∃ cd, mpA e = some cd ∧ ∀ n, qtop m' ≤ n → R (.ok (some (.int cd))) (stop m' n)
  have hTp : THp k 8 T9 := by
    intro e mm9 H locs ls rest ce q9 a9 b9 hT9 z9 hn9 hl9 hls9 hq9 hv9 hc9 ha9 hb9
    obtain ⟨cd, hcd, hR9⟩ := hT9
    unfold mpA at hcd
    by_cases e1 : e = 1
    · subst e1
      have hcd : some (-1000001 : Int32) = some cd := hcd
      cases hcd
      refine t_catch (e := 1) (hh := [(0, 11, 12, 16), (0, 11, 17, 19), (0, 11, 22, 36)]) (pre := []) (suf := [(0, 11, 17, 19), (0, 11, 22, 36)]) X C.2.1 rfl (by decide) (by decide) (by decide) (qW_at 301 (by decide +kernel) rfl) (qN_at 311 (by decide +kernel) rfl) (fun z hz => absurd hz List.not_mem_nil) (fun q n a b hn ha hb => ?_) H locs ls rest ce q9 a9 b9 z9 hn9 hl9 hls9 hq9 hv9 hc9 ha9 hb9
      refine g_astore (r := some q) (env' := [(6, .ref q)]) X dL_make_12 (by rw [hN]; decide) rfl ?_
      refine g_ldc (v := (-1000001)) X dL_make_14 (qW_at 324 (by decide +kernel) rfl) ?_
      exact h_iret X C hr rfl dL_make_16 ha hb (hR9 n hn)
    · rw [if_neg e1] at hcd
      by_cases e2 : e = 2
      · subst e2
        have hcd : some (-1000002 : Int32) = some cd := hcd
        cases hcd
        refine t_catch (e := 2) (hh := [(0, 11, 12, 16), (0, 11, 17, 19), (0, 11, 22, 36)]) (pre := [(0, 11, 12, 16)]) (suf := [(0, 11, 22, 36)]) X C.2.1 rfl (by decide) (by decide) (by decide) (qW_at 153 (by decide +kernel) rfl) (qN_at 169 (by decide +kernel) rfl) (fun z hz => by
          simp only [List.mem_cons, List.mem_nil_iff, or_false] at hz
          rcases hz with rfl
          · exact ⟨by decide, 1, by decide, by decide, (qW_at 301 (by decide +kernel) rfl)⟩) (fun q n a b hn ha hb => ?_) H locs ls rest ce q9 a9 b9 z9 hn9 hl9 hls9 hq9 hv9 hc9 ha9 hb9
        refine g_astore (r := some q) (env' := [(6, .ref q)]) X dL_make_17 (by rw [hN]; decide) rfl ?_
        refine g_ldc (v := (-1000002)) X dL_make_19 (qW_at 297 (by decide +kernel) rfl) ?_
        exact h_iret X C hr rfl dL_make_21 ha hb (hR9 n hn)
      · rw [if_neg e2] at hcd
        by_cases e3 : e = 3
        · subst e3
          have hcd : some (-1000003 : Int32) = some cd := hcd
          cases hcd
          refine t_catch (e := 3) (hh := [(0, 11, 12, 16), (0, 11, 17, 19), (0, 11, 22, 36)]) (pre := [(0, 11, 12, 16), (0, 11, 17, 19)]) (suf := []) X C.2.1 rfl (by decide) (by decide) (by decide) (qW_at 328 (by decide +kernel) rfl) (qN_at 342 (by decide +kernel) rfl) (fun z hz => by
            simp only [List.mem_cons, List.mem_nil_iff, or_false] at hz
            rcases hz with rfl | rfl
            · exact ⟨by decide, 1, by decide, by decide, (qW_at 301 (by decide +kernel) rfl)⟩
            · exact ⟨by decide, 2, by decide, by decide, (qW_at 153 (by decide +kernel) rfl)⟩) (fun q n a b hn ha hb => ?_) H locs ls rest ce q9 a9 b9 z9 hn9 hl9 hls9 hq9 hv9 hc9 ha9 hb9
          refine g_astore (r := some q) (env' := [(6, .ref q)]) X dL_make_22 (by rw [hN]; decide) rfl ?_
          refine g_ldc (v := (-1000003)) X dL_make_24 (qW_at 363 (by decide +kernel) rfl) ?_
          exact h_iret X C hr rfl dL_make_26 ha hb (hR9 n hn)
        · rw [if_neg e3] at hcd
          exact absurd hcd (by simp)
  refine t_al 0 X dL_make_0 rfl rfl ?_
  refine g_iload_n 1 X dL_make_1 rfl rfl ?_
  refine g_iload_n 2 X dL_make_2 rfl rfl ?_
  refine g_iload_n 3 X dL_make_3 rfl rfl ?_
  refine g_iload 4 X dL_make_4 rfl ?_
  refine g_iload 5 X dL_make_6 rfl ?_
  refine p_callV (st := []) (q := sv) (av := [.int p0, .int p1, .int p2, .int p3, .int p4]) (T := T9) X hTp htr rfl h1 (M_X6_make sv p0 p1 p2 p3 p4) lk_X6_make im_X6_make se_X6_make (qW_at 894 (by decide +kernel) rfl) rfl (by rw [hR]; exact ⟨Nat.le_of_ble_eq_true rfl, Nat.le_of_ble_eq_true rfl⟩) (by exact Nat.le_of_ble_eq_true rfl) (by rw [hR]; exact ⟨Nat.le_of_ble_eq_true rfl, Nat.le_of_ble_eq_true rfl⟩) dL_make_8 (by rfl) ?_
  unfold qwp
  rw [hx]
  cases r with
  | error e => exact her e rfl
  | ok v =>
    show GG k _ (.int v :: []) m1 _ _ _
    exact h_iret X C hr rfl dL_make_11 (by rw [hR]; exact Nat.le_of_ble_eq_true rfl) (by rw [hR]; exact Nat.le_of_ble_eq_true rfl) ((hok v rfl).2)
theorem dL_time_0 : decode cL_time 0 = .ok (.aload_n 0, 1) := by decide +kernel
theorem dL_time_1 : decode cL_time 1 = .ok (.iload_n 1, 1) := by decide +kernel
theorem dL_time_2 : decode cL_time 2 = .ok (.iload_n 2, 1) := by decide +kernel
theorem dL_time_3 : decode cL_time 3 = .ok (.iload_n 3, 1) := by decide +kernel
theorem dL_time_4 : decode cL_time 4 = .ok (.iload 4, 2) := by decide +kernel
theorem dL_time_6 : decode cL_time 6 = .ok (.invokevirtual 39, 3) := by decide +kernel
theorem dL_time_9 : decode cL_time 9 = .ok (.ireturn, 1) := by decide +kernel
theorem dL_time_10 : decode cL_time 10 = .ok (.astore 5, 2) := by decide +kernel
theorem dL_time_12 : decode cL_time 12 = .ok (.ldc 18, 2) := by decide +kernel
theorem dL_time_14 : decode cL_time 14 = .ok (.ireturn, 1) := by decide +kernel
theorem dL_time_15 : decode cL_time 15 = .ok (.astore 5, 2) := by decide +kernel
theorem dL_time_17 : decode cL_time 17 = .ok (.ldc 21, 2) := by decide +kernel
theorem dL_time_19 : decode cL_time 19 = .ok (.ireturn, 1) := by decide +kernel
theorem dL_time_20 : decode cL_time 20 = .ok (.astore 5, 2) := by decide +kernel
theorem dL_time_22 : decode cL_time 22 = .ok (.ldc 38, 2) := by decide +kernel
theorem dL_time_24 : decode cL_time 24 = .ok (.ireturn, 1) := by decide +kernel
theorem lkh_time : LKH yL_time cL_time 6 (some .int) [(0, 9, 10, 16), (0, 9, 15, 19), (0, 9, 20, 36)] 5 := ⟨(qW_at 1058 (by decide +kernel) rfl), (qW_at 28 (by decide +kernel) rfl), by decide, by decide, by decide +kernel⟩
theorem stl_time : Cond.static yL_time ∈ qW := (qW_at 1057 (by decide +kernel) rfl)
set_option maxRecDepth 100000 in
set_option maxHeartbeats 1600000 in
theorem E0_L_time (sv : Nat) (p0 p1 p2 p3 : Int32) : MEH yL_time cL_time 6 (some .int) [(0, 9, 10, 16), (0, 9, 15, 19), (0, 9, 20, 36)] 10 170 8 171 (fun _ => [.ref sv, .int p0, .int p1, .int p2, .int p3]) (fun _ mm R => PW0 sv (F_X6_time sv p0 p1 p2 p3) (fun v => True) mpA mm R) := by
  refine MEH_of (env0 := fun _ => [(0, .ref sv), (1, .int p0), (2, .int p1), (3, .int p2), (4, .int p3)]) (by decide) (fun _ => by exact Nat.le_of_ble_eq_true rfl) (fun _ => by rfl) (fun k mm R X C hR hN hr hname hP => ?_)
  have X : CX k cL_time RL := X
  have htr := C.2.2.2.1
  obtain ⟨h1, r, m1, hx, hok, her⟩ := hP
  let T9 : Nat → QM → Prop := fun e m' => ∃ cd, mpA e = some cd ∧ ∀ n, qtop m' ≤ n → R (.ok (some (.int cd))) (stop m' n)
  have hTp : THp k 6 T9 := by
    intro e mm9 H locs ls rest ce q9 a9 b9 hT9 z9 hn9 hl9 hls9 hq9 hv9 hc9 ha9 hb9
    obtain ⟨cd, hcd, hR9⟩ := hT9
    unfold mpA at hcd
    by_cases e1 : e = 1
    · subst e1
      have hcd : some (-1000001 : Int32) = some cd := hcd
      cases hcd
      refine t_catch (e := 1) (hh := [(0, 9, 10, 16), (0, 9, 15, 19), (0, 9, 20, 36)]) (pre := []) (suf := [(0, 9, 15, 19), (0, 9, 20, 36)]) X C.2.1 rfl (by decide) (by decide) (by decide) (qW_at 301 (by decide +kernel) rfl) (qN_at 311 (by decide +kernel) rfl) (fun z hz => absurd hz List.not_mem_nil) (fun q n a b hn ha hb => ?_) H locs ls rest ce q9 a9 b9 z9 hn9 hl9 hls9 hq9 hv9 hc9 ha9 hb9
      refine g_astore (r := some q) (env' := [(5, .ref q)]) X dL_time_10 (by rw [hN]; decide) rfl ?_
      refine g_ldc (v := (-1000001)) X dL_time_12 (qW_at 324 (by decide +kernel) rfl) ?_
      exact h_iret X C hr rfl dL_time_14 ha hb (hR9 n hn)
    · rw [if_neg e1] at hcd
      by_cases e2 : e = 2
      · subst e2
        have hcd : some (-1000002 : Int32) = some cd := hcd
        cases hcd
        refine t_catch (e := 2) (hh := [(0, 9, 10, 16), (0, 9, 15, 19), (0, 9, 20, 36)]) (pre := [(0, 9, 10, 16)]) (suf := [(0, 9, 20, 36)]) X C.2.1 rfl (by decide) (by decide) (by decide) (qW_at 153 (by decide +kernel) rfl) (qN_at 169 (by decide +kernel) rfl) (fun z hz => by
          simp only [List.mem_cons, List.mem_nil_iff, or_false] at hz
          rcases hz with rfl
          · exact ⟨by decide, 1, by decide, by decide, (qW_at 301 (by decide +kernel) rfl)⟩) (fun q n a b hn ha hb => ?_) H locs ls rest ce q9 a9 b9 z9 hn9 hl9 hls9 hq9 hv9 hc9 ha9 hb9
        refine g_astore (r := some q) (env' := [(5, .ref q)]) X dL_time_15 (by rw [hN]; decide) rfl ?_
        refine g_ldc (v := (-1000002)) X dL_time_17 (qW_at 297 (by decide +kernel) rfl) ?_
        exact h_iret X C hr rfl dL_time_19 ha hb (hR9 n hn)
      · rw [if_neg e2] at hcd
        by_cases e3 : e = 3
        · subst e3
          have hcd : some (-1000003 : Int32) = some cd := hcd
          cases hcd
          refine t_catch (e := 3) (hh := [(0, 9, 10, 16), (0, 9, 15, 19), (0, 9, 20, 36)]) (pre := [(0, 9, 10, 16), (0, 9, 15, 19)]) (suf := []) X C.2.1 rfl (by decide) (by decide) (by decide) (qW_at 328 (by decide +kernel) rfl) (qN_at 342 (by decide +kernel) rfl) (fun z hz => by
            simp only [List.mem_cons, List.mem_nil_iff, or_false] at hz
            rcases hz with rfl | rfl
            · exact ⟨by decide, 1, by decide, by decide, (qW_at 301 (by decide +kernel) rfl)⟩
            · exact ⟨by decide, 2, by decide, by decide, (qW_at 153 (by decide +kernel) rfl)⟩) (fun q n a b hn ha hb => ?_) H locs ls rest ce q9 a9 b9 z9 hn9 hl9 hls9 hq9 hv9 hc9 ha9 hb9
          refine g_astore (r := some q) (env' := [(5, .ref q)]) X dL_time_20 (by rw [hN]; decide) rfl ?_
          refine g_ldc (v := (-1000003)) X dL_time_22 (qW_at 363 (by decide +kernel) rfl) ?_
          exact h_iret X C hr rfl dL_time_24 ha hb (hR9 n hn)
        · rw [if_neg e3] at hcd
          exact absurd hcd (by simp)
  refine t_al 0 X dL_time_0 rfl rfl ?_
  refine g_iload_n 1 X dL_time_1 rfl rfl ?_
  refine g_iload_n 2 X dL_time_2 rfl rfl ?_
  refine g_iload_n 3 X dL_time_3 rfl rfl ?_
  refine g_iload 4 X dL_time_4 rfl ?_
  refine p_callV (st := []) (q := sv) (av := [.int p0, .int p1, .int p2, .int p3]) (T := T9) X hTp htr rfl h1 (M_X6_time sv p0 p1 p2 p3) lk_X6_time im_X6_time se_X6_time (qW_at 1059 (by decide +kernel) rfl) rfl (by rw [hR]; exact ⟨Nat.le_of_ble_eq_true rfl, Nat.le_of_ble_eq_true rfl⟩) (by exact Nat.le_of_ble_eq_true rfl) (by rw [hR]; exact ⟨Nat.le_of_ble_eq_true rfl, Nat.le_of_ble_eq_true rfl⟩) dL_time_6 (by rfl) ?_
  unfold qwp
  rw [hx]
  cases r with
  | error e => exact her e rfl
  | ok v =>
    show GG k _ (.int v :: []) m1 _ _ _
    exact h_iret X C hr rfl dL_time_9 (by rw [hR]; exact Nat.le_of_ble_eq_true rfl) (by rw [hR]; exact Nat.le_of_ble_eq_true rfl) ((hok v rfl).2)
theorem dL_repeat_0 : decode cL_repeat 0 = .ok (.aload_n 0, 1) := by decide +kernel
theorem dL_repeat_1 : decode cL_repeat 1 = .ok (.iload_n 1, 1) := by decide +kernel
theorem dL_repeat_2 : decode cL_repeat 2 = .ok (.iload_n 2, 1) := by decide +kernel
theorem dL_repeat_3 : decode cL_repeat 3 = .ok (.iload_n 3, 1) := by decide +kernel
theorem dL_repeat_4 : decode cL_repeat 4 = .ok (.iload 4, 2) := by decide +kernel
theorem dL_repeat_6 : decode cL_repeat 6 = .ok (.invokevirtual 43, 3) := by decide +kernel
theorem dL_repeat_9 : decode cL_repeat 9 = .ok (.ireturn, 1) := by decide +kernel
theorem dL_repeat_10 : decode cL_repeat 10 = .ok (.astore 5, 2) := by decide +kernel
theorem dL_repeat_12 : decode cL_repeat 12 = .ok (.ldc 18, 2) := by decide +kernel
theorem dL_repeat_14 : decode cL_repeat 14 = .ok (.ireturn, 1) := by decide +kernel
theorem dL_repeat_15 : decode cL_repeat 15 = .ok (.astore 5, 2) := by decide +kernel
theorem dL_repeat_17 : decode cL_repeat 17 = .ok (.ldc 21, 2) := by decide +kernel
theorem dL_repeat_19 : decode cL_repeat 19 = .ok (.ireturn, 1) := by decide +kernel
theorem dL_repeat_20 : decode cL_repeat 20 = .ok (.astore 5, 2) := by decide +kernel
theorem dL_repeat_22 : decode cL_repeat 22 = .ok (.ldc 38, 2) := by decide +kernel
theorem dL_repeat_24 : decode cL_repeat 24 = .ok (.ireturn, 1) := by decide +kernel
theorem lkh_repeat : LKH yL_repeat cL_repeat 6 (some .int) [(0, 9, 10, 16), (0, 9, 15, 19), (0, 9, 20, 36)] 5 := ⟨(qW_at 1080 (by decide +kernel) rfl), (qW_at 28 (by decide +kernel) rfl), by decide, by decide, by decide +kernel⟩
theorem stl_repeat : Cond.static yL_repeat ∈ qW := (qW_at 1079 (by decide +kernel) rfl)
set_option maxRecDepth 100000 in
set_option maxHeartbeats 1600000 in
theorem E0_L_repeat (sv : Nat) (p0 p1 p2 p3 : Int32) : MEH yL_repeat cL_repeat 6 (some .int) [(0, 9, 10, 16), (0, 9, 15, 19), (0, 9, 20, 36)] 9 148 8 171 (fun _ => [.ref sv, .int p0, .int p1, .int p2, .int p3]) (fun _ mm R => PW0 sv (F_X6_repeat sv p0 p1 p2 p3) (fun v => True) mpA mm R) := by
  refine MEH_of (env0 := fun _ => [(0, .ref sv), (1, .int p0), (2, .int p1), (3, .int p2), (4, .int p3)]) (by decide) (fun _ => by exact Nat.le_of_ble_eq_true rfl) (fun _ => by rfl) (fun k mm R X C hR hN hr hname hP => ?_)
  have X : CX k cL_repeat RL := X
  have htr := C.2.2.2.1
  obtain ⟨h1, r, m1, hx, hok, her⟩ := hP
  let T9 : Nat → QM → Prop := fun e m' => ∃ cd, mpA e = some cd ∧ ∀ n, qtop m' ≤ n → R (.ok (some (.int cd))) (stop m' n)
  have hTp : THp k 6 T9 := by
    intro e mm9 H locs ls rest ce q9 a9 b9 hT9 z9 hn9 hl9 hls9 hq9 hv9 hc9 ha9 hb9
    obtain ⟨cd, hcd, hR9⟩ := hT9
    unfold mpA at hcd
    by_cases e1 : e = 1
    · subst e1
      have hcd : some (-1000001 : Int32) = some cd := hcd
      cases hcd
      refine t_catch (e := 1) (hh := [(0, 9, 10, 16), (0, 9, 15, 19), (0, 9, 20, 36)]) (pre := []) (suf := [(0, 9, 15, 19), (0, 9, 20, 36)]) X C.2.1 rfl (by decide) (by decide) (by decide) (qW_at 301 (by decide +kernel) rfl) (qN_at 311 (by decide +kernel) rfl) (fun z hz => absurd hz List.not_mem_nil) (fun q n a b hn ha hb => ?_) H locs ls rest ce q9 a9 b9 z9 hn9 hl9 hls9 hq9 hv9 hc9 ha9 hb9
      refine g_astore (r := some q) (env' := [(5, .ref q)]) X dL_repeat_10 (by rw [hN]; decide) rfl ?_
      refine g_ldc (v := (-1000001)) X dL_repeat_12 (qW_at 324 (by decide +kernel) rfl) ?_
      exact h_iret X C hr rfl dL_repeat_14 ha hb (hR9 n hn)
    · rw [if_neg e1] at hcd
      by_cases e2 : e = 2
      · subst e2
        have hcd : some (-1000002 : Int32) = some cd := hcd
        cases hcd
        refine t_catch (e := 2) (hh := [(0, 9, 10, 16), (0, 9, 15, 19), (0, 9, 20, 36)]) (pre := [(0, 9, 10, 16)]) (suf := [(0, 9, 20, 36)]) X C.2.1 rfl (by decide) (by decide) (by decide) (qW_at 153 (by decide +kernel) rfl) (qN_at 169 (by decide +kernel) rfl) (fun z hz => by
          simp only [List.mem_cons, List.mem_nil_iff, or_false] at hz
          rcases hz with rfl
          · exact ⟨by decide, 1, by decide, by decide, (qW_at 301 (by decide +kernel) rfl)⟩) (fun q n a b hn ha hb => ?_) H locs ls rest ce q9 a9 b9 z9 hn9 hl9 hls9 hq9 hv9 hc9 ha9 hb9
        refine g_astore (r := some q) (env' := [(5, .ref q)]) X dL_repeat_15 (by rw [hN]; decide) rfl ?_
        refine g_ldc (v := (-1000002)) X dL_repeat_17 (qW_at 297 (by decide +kernel) rfl) ?_
        exact h_iret X C hr rfl dL_repeat_19 ha hb (hR9 n hn)
      · rw [if_neg e2] at hcd
        by_cases e3 : e = 3
        · subst e3
          have hcd : some (-1000003 : Int32) = some cd := hcd
          cases hcd
          refine t_catch (e := 3) (hh := [(0, 9, 10, 16), (0, 9, 15, 19), (0, 9, 20, 36)]) (pre := [(0, 9, 10, 16), (0, 9, 15, 19)]) (suf := []) X C.2.1 rfl (by decide) (by decide) (by decide) (qW_at 328 (by decide +kernel) rfl) (qN_at 342 (by decide +kernel) rfl) (fun z hz => by
            simp only [List.mem_cons, List.mem_nil_iff, or_false] at hz
            rcases hz with rfl | rfl
            · exact ⟨by decide, 1, by decide, by decide, (qW_at 301 (by decide +kernel) rfl)⟩
            · exact ⟨by decide, 2, by decide, by decide, (qW_at 153 (by decide +kernel) rfl)⟩) (fun q n a b hn ha hb => ?_) H locs ls rest ce q9 a9 b9 z9 hn9 hl9 hls9 hq9 hv9 hc9 ha9 hb9
          refine g_astore (r := some q) (env' := [(5, .ref q)]) X dL_repeat_20 (by rw [hN]; decide) rfl ?_
          refine g_ldc (v := (-1000003)) X dL_repeat_22 (qW_at 363 (by decide +kernel) rfl) ?_
          exact h_iret X C hr rfl dL_repeat_24 ha hb (hR9 n hn)
        · rw [if_neg e3] at hcd
          exact absurd hcd (by simp)
  refine t_al 0 X dL_repeat_0 rfl rfl ?_
  refine g_iload_n 1 X dL_repeat_1 rfl rfl ?_
  refine g_iload_n 2 X dL_repeat_2 rfl rfl ?_
  refine g_iload_n 3 X dL_repeat_3 rfl rfl ?_
  refine g_iload 4 X dL_repeat_4 rfl ?_
  refine p_callV (st := []) (q := sv) (av := [.int p0, .int p1, .int p2, .int p3]) (T := T9) X hTp htr rfl h1 (M_X6_repeat sv p0 p1 p2 p3) lk_X6_repeat im_X6_repeat se_X6_repeat (qW_at 1081 (by decide +kernel) rfl) rfl (by rw [hR]; exact ⟨Nat.le_of_ble_eq_true rfl, Nat.le_of_ble_eq_true rfl⟩) (by exact Nat.le_of_ble_eq_true rfl) (by rw [hR]; exact ⟨Nat.le_of_ble_eq_true rfl, Nat.le_of_ble_eq_true rfl⟩) dL_repeat_6 (by rfl) ?_
  unfold qwp
  rw [hx]
  cases r with
  | error e => exact her e rfl
  | ok v =>
    show GG k _ (.int v :: []) m1 _ _ _
    exact h_iret X C hr rfl dL_repeat_9 (by rw [hR]; exact Nat.le_of_ble_eq_true rfl) (by rw [hR]; exact Nat.le_of_ble_eq_true rfl) ((hok v rfl).2)
theorem dL_drop_0 : decode cL_drop 0 = .ok (.aload_n 0, 1) := by decide +kernel
theorem dL_drop_1 : decode cL_drop 1 = .ok (.iload_n 1, 1) := by decide +kernel
theorem dL_drop_2 : decode cL_drop 2 = .ok (.iload_n 2, 1) := by decide +kernel
theorem dL_drop_3 : decode cL_drop 3 = .ok (.invokevirtual 46, 3) := by decide +kernel
theorem dL_drop_6 : decode cL_drop 6 = .ok (.ireturn, 1) := by decide +kernel
theorem dL_drop_7 : decode cL_drop 7 = .ok (.astore_n 3, 1) := by decide +kernel
theorem dL_drop_8 : decode cL_drop 8 = .ok (.ldc 18, 2) := by decide +kernel
theorem dL_drop_10 : decode cL_drop 10 = .ok (.ireturn, 1) := by decide +kernel
theorem dL_drop_11 : decode cL_drop 11 = .ok (.astore_n 3, 1) := by decide +kernel
theorem dL_drop_12 : decode cL_drop 12 = .ok (.ldc 21, 2) := by decide +kernel
theorem dL_drop_14 : decode cL_drop 14 = .ok (.ireturn, 1) := by decide +kernel
theorem dL_drop_15 : decode cL_drop 15 = .ok (.astore_n 3, 1) := by decide +kernel
theorem dL_drop_16 : decode cL_drop 16 = .ok (.ldc 38, 2) := by decide +kernel
theorem dL_drop_18 : decode cL_drop 18 = .ok (.ireturn, 1) := by decide +kernel
theorem lkh_drop : LKH yL_drop cL_drop 4 (some .int) [(0, 6, 7, 16), (0, 6, 11, 19), (0, 6, 15, 36)] 3 := ⟨(qW_at 1092 (by decide +kernel) rfl), (qW_at 28 (by decide +kernel) rfl), by decide, by decide, by decide +kernel⟩
theorem stl_drop : Cond.static yL_drop ∈ qW := (qW_at 1091 (by decide +kernel) rfl)
set_option maxRecDepth 100000 in
set_option maxHeartbeats 1600000 in
theorem E0_L_drop (sv : Nat) (p0 p1 : Int32) : MEH yL_drop cL_drop 4 (some .int) [(0, 6, 7, 16), (0, 6, 11, 19), (0, 6, 15, 36)] 9 144 6 159 (fun _ => [.ref sv, .int p0, .int p1]) (fun _ mm R => PW0 sv (F_X6_drop sv p0 p1) (fun v => True) mpA mm R) := by
  refine MEH_of (env0 := fun _ => [(0, .ref sv), (1, .int p0), (2, .int p1)]) (by decide) (fun _ => by exact Nat.le_of_ble_eq_true rfl) (fun _ => by rfl) (fun k mm R X C hR hN hr hname hP => ?_)
  have X : CX k cL_drop RL := X
  have htr := C.2.2.2.1
  obtain ⟨h1, r, m1, hx, hok, her⟩ := hP
  let T9 : Nat → QM → Prop := fun e m' => ∃ cd, mpA e = some cd ∧ ∀ n, qtop m' ≤ n → R (.ok (some (.int cd))) (stop m' n)
  have hTp : THp k 3 T9 := by
    intro e mm9 H locs ls rest ce q9 a9 b9 hT9 z9 hn9 hl9 hls9 hq9 hv9 hc9 ha9 hb9
    obtain ⟨cd, hcd, hR9⟩ := hT9
    unfold mpA at hcd
    by_cases e1 : e = 1
    · subst e1
      have hcd : some (-1000001 : Int32) = some cd := hcd
      cases hcd
      refine t_catch (e := 1) (hh := [(0, 6, 7, 16), (0, 6, 11, 19), (0, 6, 15, 36)]) (pre := []) (suf := [(0, 6, 11, 19), (0, 6, 15, 36)]) X C.2.1 rfl (by decide) (by decide) (by decide) (qW_at 301 (by decide +kernel) rfl) (qN_at 311 (by decide +kernel) rfl) (fun z hz => absurd hz List.not_mem_nil) (fun q n a b hn ha hb => ?_) H locs ls rest ce q9 a9 b9 z9 hn9 hl9 hls9 hq9 hv9 hc9 ha9 hb9
      refine t_as (env' := [(3, .ref q)]) X dL_drop_7 rfl (by rw [hN]; decide) rfl ?_
      refine g_ldc (v := (-1000001)) X dL_drop_8 (qW_at 324 (by decide +kernel) rfl) ?_
      exact h_iret X C hr rfl dL_drop_10 ha hb (hR9 n hn)
    · rw [if_neg e1] at hcd
      by_cases e2 : e = 2
      · subst e2
        have hcd : some (-1000002 : Int32) = some cd := hcd
        cases hcd
        refine t_catch (e := 2) (hh := [(0, 6, 7, 16), (0, 6, 11, 19), (0, 6, 15, 36)]) (pre := [(0, 6, 7, 16)]) (suf := [(0, 6, 15, 36)]) X C.2.1 rfl (by decide) (by decide) (by decide) (qW_at 153 (by decide +kernel) rfl) (qN_at 169 (by decide +kernel) rfl) (fun z hz => by
          simp only [List.mem_cons, List.mem_nil_iff, or_false] at hz
          rcases hz with rfl
          · exact ⟨by decide, 1, by decide, by decide, (qW_at 301 (by decide +kernel) rfl)⟩) (fun q n a b hn ha hb => ?_) H locs ls rest ce q9 a9 b9 z9 hn9 hl9 hls9 hq9 hv9 hc9 ha9 hb9
        refine t_as (env' := [(3, .ref q)]) X dL_drop_11 rfl (by rw [hN]; decide) rfl ?_
        refine g_ldc (v := (-1000002)) X dL_drop_12 (qW_at 297 (by decide +kernel) rfl) ?_
        exact h_iret X C hr rfl dL_drop_14 ha hb (hR9 n hn)
      · rw [if_neg e2] at hcd
        by_cases e3 : e = 3
        · subst e3
          have hcd : some (-1000003 : Int32) = some cd := hcd
          cases hcd
          refine t_catch (e := 3) (hh := [(0, 6, 7, 16), (0, 6, 11, 19), (0, 6, 15, 36)]) (pre := [(0, 6, 7, 16), (0, 6, 11, 19)]) (suf := []) X C.2.1 rfl (by decide) (by decide) (by decide) (qW_at 328 (by decide +kernel) rfl) (qN_at 342 (by decide +kernel) rfl) (fun z hz => by
            simp only [List.mem_cons, List.mem_nil_iff, or_false] at hz
            rcases hz with rfl | rfl
            · exact ⟨by decide, 1, by decide, by decide, (qW_at 301 (by decide +kernel) rfl)⟩
            · exact ⟨by decide, 2, by decide, by decide, (qW_at 153 (by decide +kernel) rfl)⟩) (fun q n a b hn ha hb => ?_) H locs ls rest ce q9 a9 b9 z9 hn9 hl9 hls9 hq9 hv9 hc9 ha9 hb9
          refine t_as (env' := [(3, .ref q)]) X dL_drop_15 rfl (by rw [hN]; decide) rfl ?_
          refine g_ldc (v := (-1000003)) X dL_drop_16 (qW_at 363 (by decide +kernel) rfl) ?_
          exact h_iret X C hr rfl dL_drop_18 ha hb (hR9 n hn)
        · rw [if_neg e3] at hcd
          exact absurd hcd (by simp)
  refine t_al 0 X dL_drop_0 rfl rfl ?_
  refine g_iload_n 1 X dL_drop_1 rfl rfl ?_
  refine g_iload_n 2 X dL_drop_2 rfl rfl ?_
  refine p_callV (st := []) (q := sv) (av := [.int p0, .int p1]) (T := T9) X hTp htr rfl h1 (M_X6_drop sv p0 p1) lk_X6_drop im_X6_drop se_X6_drop (qW_at 1093 (by decide +kernel) rfl) rfl (by rw [hR]; exact ⟨Nat.le_of_ble_eq_true rfl, Nat.le_of_ble_eq_true rfl⟩) (by exact Nat.le_of_ble_eq_true rfl) (by rw [hR]; exact ⟨Nat.le_of_ble_eq_true rfl, Nat.le_of_ble_eq_true rfl⟩) dL_drop_3 (by rfl) ?_
  unfold qwp
  rw [hx]
  cases r with
  | error e => exact her e rfl
  | ok v =>
    show GG k _ (.int v :: []) m1 _ _ _
    exact h_iret X C hr rfl dL_drop_6 (by rw [hR]; exact Nat.le_of_ble_eq_true rfl) (by rw [hR]; exact Nat.le_of_ble_eq_true rfl) ((hok v rfl).2)
theorem dL_add_0 : decode cL_add 0 = .ok (.aload_n 0, 1) := by decide +kernel
theorem dL_add_1 : decode cL_add 1 = .ok (.iload_n 1, 1) := by decide +kernel
theorem dL_add_2 : decode cL_add 2 = .ok (.iload_n 2, 1) := by decide +kernel
theorem dL_add_3 : decode cL_add 3 = .ok (.invokevirtual 49, 3) := by decide +kernel
theorem dL_add_6 : decode cL_add 6 = .ok (.ireturn, 1) := by decide +kernel
theorem dL_add_7 : decode cL_add 7 = .ok (.astore_n 3, 1) := by decide +kernel
theorem dL_add_8 : decode cL_add 8 = .ok (.ldc 18, 2) := by decide +kernel
theorem dL_add_10 : decode cL_add 10 = .ok (.ireturn, 1) := by decide +kernel
theorem dL_add_11 : decode cL_add 11 = .ok (.astore_n 3, 1) := by decide +kernel
theorem dL_add_12 : decode cL_add 12 = .ok (.ldc 21, 2) := by decide +kernel
theorem dL_add_14 : decode cL_add 14 = .ok (.ireturn, 1) := by decide +kernel
theorem dL_add_15 : decode cL_add 15 = .ok (.astore_n 3, 1) := by decide +kernel
theorem dL_add_16 : decode cL_add 16 = .ok (.ldc 38, 2) := by decide +kernel
theorem dL_add_18 : decode cL_add 18 = .ok (.ireturn, 1) := by decide +kernel
theorem lkh_add : LKH yL_add cL_add 4 (some .int) [(0, 6, 7, 16), (0, 6, 11, 19), (0, 6, 15, 36)] 3 := ⟨(qW_at 1112 (by decide +kernel) rfl), (qW_at 28 (by decide +kernel) rfl), by decide, by decide, by decide +kernel⟩
theorem stl_add : Cond.static yL_add ∈ qW := (qW_at 1111 (by decide +kernel) rfl)
set_option maxRecDepth 100000 in
set_option maxHeartbeats 1600000 in
theorem E0_L_add (sv : Nat) (p0 p1 : Int32) : MEH yL_add cL_add 4 (some .int) [(0, 6, 7, 16), (0, 6, 11, 19), (0, 6, 15, 36)] 9 144 6 159 (fun _ => [.ref sv, .int p0, .int p1]) (fun _ mm R => PW0 sv (F_X6_add sv p0 p1) (fun v => True) mpA mm R) := by
  refine MEH_of (env0 := fun _ => [(0, .ref sv), (1, .int p0), (2, .int p1)]) (by decide) (fun _ => by exact Nat.le_of_ble_eq_true rfl) (fun _ => by rfl) (fun k mm R X C hR hN hr hname hP => ?_)
  have X : CX k cL_add RL := X
  have htr := C.2.2.2.1
  obtain ⟨h1, r, m1, hx, hok, her⟩ := hP
  let T9 : Nat → QM → Prop := fun e m' => ∃ cd, mpA e = some cd ∧ ∀ n, qtop m' ≤ n → R (.ok (some (.int cd))) (stop m' n)
  have hTp : THp k 3 T9 := by
    intro e mm9 H locs ls rest ce q9 a9 b9 hT9 z9 hn9 hl9 hls9 hq9 hv9 hc9 ha9 hb9
    obtain ⟨cd, hcd, hR9⟩ := hT9
    unfold mpA at hcd
    by_cases e1 : e = 1
    · subst e1
      have hcd : some (-1000001 : Int32) = some cd := hcd
      cases hcd
      refine t_catch (e := 1) (hh := [(0, 6, 7, 16), (0, 6, 11, 19), (0, 6, 15, 36)]) (pre := []) (suf := [(0, 6, 11, 19), (0, 6, 15, 36)]) X C.2.1 rfl (by decide) (by decide) (by decide) (qW_at 301 (by decide +kernel) rfl) (qN_at 311 (by decide +kernel) rfl) (fun z hz => absurd hz List.not_mem_nil) (fun q n a b hn ha hb => ?_) H locs ls rest ce q9 a9 b9 z9 hn9 hl9 hls9 hq9 hv9 hc9 ha9 hb9
      refine t_as (env' := [(3, .ref q)]) X dL_add_7 rfl (by rw [hN]; decide) rfl ?_
      refine g_ldc (v := (-1000001)) X dL_add_8 (qW_at 324 (by decide +kernel) rfl) ?_
      exact h_iret X C hr rfl dL_add_10 ha hb (hR9 n hn)
    · rw [if_neg e1] at hcd
      by_cases e2 : e = 2
      · subst e2
        have hcd : some (-1000002 : Int32) = some cd := hcd
        cases hcd
        refine t_catch (e := 2) (hh := [(0, 6, 7, 16), (0, 6, 11, 19), (0, 6, 15, 36)]) (pre := [(0, 6, 7, 16)]) (suf := [(0, 6, 15, 36)]) X C.2.1 rfl (by decide) (by decide) (by decide) (qW_at 153 (by decide +kernel) rfl) (qN_at 169 (by decide +kernel) rfl) (fun z hz => by
          simp only [List.mem_cons, List.mem_nil_iff, or_false] at hz
          rcases hz with rfl
          · exact ⟨by decide, 1, by decide, by decide, (qW_at 301 (by decide +kernel) rfl)⟩) (fun q n a b hn ha hb => ?_) H locs ls rest ce q9 a9 b9 z9 hn9 hl9 hls9 hq9 hv9 hc9 ha9 hb9
        refine t_as (env' := [(3, .ref q)]) X dL_add_11 rfl (by rw [hN]; decide) rfl ?_
        refine g_ldc (v := (-1000002)) X dL_add_12 (qW_at 297 (by decide +kernel) rfl) ?_
        exact h_iret X C hr rfl dL_add_14 ha hb (hR9 n hn)
      · rw [if_neg e2] at hcd
        by_cases e3 : e = 3
        · subst e3
          have hcd : some (-1000003 : Int32) = some cd := hcd
          cases hcd
          refine t_catch (e := 3) (hh := [(0, 6, 7, 16), (0, 6, 11, 19), (0, 6, 15, 36)]) (pre := [(0, 6, 7, 16), (0, 6, 11, 19)]) (suf := []) X C.2.1 rfl (by decide) (by decide) (by decide) (qW_at 328 (by decide +kernel) rfl) (qN_at 342 (by decide +kernel) rfl) (fun z hz => by
            simp only [List.mem_cons, List.mem_nil_iff, or_false] at hz
            rcases hz with rfl | rfl
            · exact ⟨by decide, 1, by decide, by decide, (qW_at 301 (by decide +kernel) rfl)⟩
            · exact ⟨by decide, 2, by decide, by decide, (qW_at 153 (by decide +kernel) rfl)⟩) (fun q n a b hn ha hb => ?_) H locs ls rest ce q9 a9 b9 z9 hn9 hl9 hls9 hq9 hv9 hc9 ha9 hb9
          refine t_as (env' := [(3, .ref q)]) X dL_add_15 rfl (by rw [hN]; decide) rfl ?_
          refine g_ldc (v := (-1000003)) X dL_add_16 (qW_at 363 (by decide +kernel) rfl) ?_
          exact h_iret X C hr rfl dL_add_18 ha hb (hR9 n hn)
        · rw [if_neg e3] at hcd
          exact absurd hcd (by simp)
  refine t_al 0 X dL_add_0 rfl rfl ?_
  refine g_iload_n 1 X dL_add_1 rfl rfl ?_
  refine g_iload_n 2 X dL_add_2 rfl rfl ?_
  refine p_callV (st := []) (q := sv) (av := [.int p0, .int p1]) (T := T9) X hTp htr rfl h1 (M_X6_add sv p0 p1) lk_X6_add im_X6_add se_X6_add (qW_at 1113 (by decide +kernel) rfl) rfl (by rw [hR]; exact ⟨Nat.le_of_ble_eq_true rfl, Nat.le_of_ble_eq_true rfl⟩) (by exact Nat.le_of_ble_eq_true rfl) (by rw [hR]; exact ⟨Nat.le_of_ble_eq_true rfl, Nat.le_of_ble_eq_true rfl⟩) dL_add_3 (by rfl) ?_
  unfold qwp
  rw [hx]
  cases r with
  | error e => exact her e rfl
  | ok v =>
    show GG k _ (.int v :: []) m1 _ _ _
    exact h_iret X C hr rfl dL_add_6 (by rw [hR]; exact Nat.le_of_ble_eq_true rfl) (by rw [hR]; exact Nat.le_of_ble_eq_true rfl) ((hok v rfl).2)
theorem dL_move_0 : decode cL_move 0 = .ok (.aload_n 0, 1) := by decide +kernel
theorem dL_move_1 : decode cL_move 1 = .ok (.iload_n 1, 1) := by decide +kernel
theorem dL_move_2 : decode cL_move 2 = .ok (.iload_n 2, 1) := by decide +kernel
theorem dL_move_3 : decode cL_move 3 = .ok (.iload_n 3, 1) := by decide +kernel
theorem dL_move_4 : decode cL_move 4 = .ok (.invokevirtual 52, 3) := by decide +kernel
theorem dL_move_7 : decode cL_move 7 = .ok (.ireturn, 1) := by decide +kernel
theorem dL_move_8 : decode cL_move 8 = .ok (.astore 4, 2) := by decide +kernel
theorem dL_move_10 : decode cL_move 10 = .ok (.ldc 18, 2) := by decide +kernel
theorem dL_move_12 : decode cL_move 12 = .ok (.ireturn, 1) := by decide +kernel
theorem dL_move_13 : decode cL_move 13 = .ok (.astore 4, 2) := by decide +kernel
theorem dL_move_15 : decode cL_move 15 = .ok (.ldc 21, 2) := by decide +kernel
theorem dL_move_17 : decode cL_move 17 = .ok (.ireturn, 1) := by decide +kernel
theorem dL_move_18 : decode cL_move 18 = .ok (.astore 4, 2) := by decide +kernel
theorem dL_move_20 : decode cL_move 20 = .ok (.ldc 38, 2) := by decide +kernel
theorem dL_move_22 : decode cL_move 22 = .ok (.ireturn, 1) := by decide +kernel
theorem lkh_move : LKH yL_move cL_move 5 (some .int) [(0, 7, 8, 16), (0, 7, 13, 19), (0, 7, 18, 36)] 4 := ⟨(qW_at 1127 (by decide +kernel) rfl), (qW_at 28 (by decide +kernel) rfl), by decide, by decide, by decide +kernel⟩
theorem stl_move : Cond.static yL_move ∈ qW := (qW_at 1126 (by decide +kernel) rfl)
set_option maxRecDepth 100000 in
set_option maxHeartbeats 1600000 in
theorem E0_L_move (sv : Nat) (p0 p1 p2 : Int32) : MEH yL_move cL_move 5 (some .int) [(0, 7, 8, 16), (0, 7, 13, 19), (0, 7, 18, 36)] 10 167 7 161 (fun _ => [.ref sv, .int p0, .int p1, .int p2]) (fun _ mm R => PW0 sv (F_X6_move sv p0 p1 p2) (fun v => True) mpA mm R) := by
  refine MEH_of (env0 := fun _ => [(0, .ref sv), (1, .int p0), (2, .int p1), (3, .int p2)]) (by decide) (fun _ => by exact Nat.le_of_ble_eq_true rfl) (fun _ => by rfl) (fun k mm R X C hR hN hr hname hP => ?_)
  have X : CX k cL_move RL := X
  have htr := C.2.2.2.1
  obtain ⟨h1, r, m1, hx, hok, her⟩ := hP
  let T9 : Nat → QM → Prop := fun e m' => ∃ cd, mpA e = some cd ∧ ∀ n, qtop m' ≤ n → R (.ok (some (.int cd))) (stop m' n)
  have hTp : THp k 4 T9 := by
    intro e mm9 H locs ls rest ce q9 a9 b9 hT9 z9 hn9 hl9 hls9 hq9 hv9 hc9 ha9 hb9
    obtain ⟨cd, hcd, hR9⟩ := hT9
    unfold mpA at hcd
    by_cases e1 : e = 1
    · subst e1
      have hcd : some (-1000001 : Int32) = some cd := hcd
      cases hcd
      refine t_catch (e := 1) (hh := [(0, 7, 8, 16), (0, 7, 13, 19), (0, 7, 18, 36)]) (pre := []) (suf := [(0, 7, 13, 19), (0, 7, 18, 36)]) X C.2.1 rfl (by decide) (by decide) (by decide) (qW_at 301 (by decide +kernel) rfl) (qN_at 311 (by decide +kernel) rfl) (fun z hz => absurd hz List.not_mem_nil) (fun q n a b hn ha hb => ?_) H locs ls rest ce q9 a9 b9 z9 hn9 hl9 hls9 hq9 hv9 hc9 ha9 hb9
      refine g_astore (r := some q) (env' := [(4, .ref q)]) X dL_move_8 (by rw [hN]; decide) rfl ?_
      refine g_ldc (v := (-1000001)) X dL_move_10 (qW_at 324 (by decide +kernel) rfl) ?_
      exact h_iret X C hr rfl dL_move_12 ha hb (hR9 n hn)
    · rw [if_neg e1] at hcd
      by_cases e2 : e = 2
      · subst e2
        have hcd : some (-1000002 : Int32) = some cd := hcd
        cases hcd
        refine t_catch (e := 2) (hh := [(0, 7, 8, 16), (0, 7, 13, 19), (0, 7, 18, 36)]) (pre := [(0, 7, 8, 16)]) (suf := [(0, 7, 18, 36)]) X C.2.1 rfl (by decide) (by decide) (by decide) (qW_at 153 (by decide +kernel) rfl) (qN_at 169 (by decide +kernel) rfl) (fun z hz => by
          simp only [List.mem_cons, List.mem_nil_iff, or_false] at hz
          rcases hz with rfl
          · exact ⟨by decide, 1, by decide, by decide, (qW_at 301 (by decide +kernel) rfl)⟩) (fun q n a b hn ha hb => ?_) H locs ls rest ce q9 a9 b9 z9 hn9 hl9 hls9 hq9 hv9 hc9 ha9 hb9
        refine g_astore (r := some q) (env' := [(4, .ref q)]) X dL_move_13 (by rw [hN]; decide) rfl ?_
        refine g_ldc (v := (-1000002)) X dL_move_15 (qW_at 297 (by decide +kernel) rfl) ?_
        exact h_iret X C hr rfl dL_move_17 ha hb (hR9 n hn)
      · rw [if_neg e2] at hcd
        by_cases e3 : e = 3
        · subst e3
          have hcd : some (-1000003 : Int32) = some cd := hcd
          cases hcd
          refine t_catch (e := 3) (hh := [(0, 7, 8, 16), (0, 7, 13, 19), (0, 7, 18, 36)]) (pre := [(0, 7, 8, 16), (0, 7, 13, 19)]) (suf := []) X C.2.1 rfl (by decide) (by decide) (by decide) (qW_at 328 (by decide +kernel) rfl) (qN_at 342 (by decide +kernel) rfl) (fun z hz => by
            simp only [List.mem_cons, List.mem_nil_iff, or_false] at hz
            rcases hz with rfl | rfl
            · exact ⟨by decide, 1, by decide, by decide, (qW_at 301 (by decide +kernel) rfl)⟩
            · exact ⟨by decide, 2, by decide, by decide, (qW_at 153 (by decide +kernel) rfl)⟩) (fun q n a b hn ha hb => ?_) H locs ls rest ce q9 a9 b9 z9 hn9 hl9 hls9 hq9 hv9 hc9 ha9 hb9
          refine g_astore (r := some q) (env' := [(4, .ref q)]) X dL_move_18 (by rw [hN]; decide) rfl ?_
          refine g_ldc (v := (-1000003)) X dL_move_20 (qW_at 363 (by decide +kernel) rfl) ?_
          exact h_iret X C hr rfl dL_move_22 ha hb (hR9 n hn)
        · rw [if_neg e3] at hcd
          exact absurd hcd (by simp)
  refine t_al 0 X dL_move_0 rfl rfl ?_
  refine g_iload_n 1 X dL_move_1 rfl rfl ?_
  refine g_iload_n 2 X dL_move_2 rfl rfl ?_
  refine g_iload_n 3 X dL_move_3 rfl rfl ?_
  refine p_callV (st := []) (q := sv) (av := [.int p0, .int p1, .int p2]) (T := T9) X hTp htr rfl h1 (M_X6_move sv p0 p1 p2) lk_X6_move im_X6_move se_X6_move (qW_at 1128 (by decide +kernel) rfl) rfl (by rw [hR]; exact ⟨Nat.le_of_ble_eq_true rfl, Nat.le_of_ble_eq_true rfl⟩) (by exact Nat.le_of_ble_eq_true rfl) (by rw [hR]; exact ⟨Nat.le_of_ble_eq_true rfl, Nat.le_of_ble_eq_true rfl⟩) dL_move_4 (by rfl) ?_
  unfold qwp
  rw [hx]
  cases r with
  | error e => exact her e rfl
  | ok v =>
    show GG k _ (.int v :: []) m1 _ _ _
    exact h_iret X C hr rfl dL_move_7 (by rw [hR]; exact Nat.le_of_ble_eq_true rfl) (by rw [hR]; exact Nat.le_of_ble_eq_true rfl) ((hok v rfl).2)
theorem dL_invite_0 : decode cL_invite 0 = .ok (.aload_n 0, 1) := by decide +kernel
theorem dL_invite_1 : decode cL_invite 1 = .ok (.iload_n 1, 1) := by decide +kernel
theorem dL_invite_2 : decode cL_invite 2 = .ok (.iload_n 2, 1) := by decide +kernel
theorem dL_invite_3 : decode cL_invite 3 = .ok (.iload_n 3, 1) := by decide +kernel
theorem dL_invite_4 : decode cL_invite 4 = .ok (.invokevirtual 55, 3) := by decide +kernel
theorem dL_invite_7 : decode cL_invite 7 = .ok (.ireturn, 1) := by decide +kernel
theorem dL_invite_8 : decode cL_invite 8 = .ok (.astore 4, 2) := by decide +kernel
theorem dL_invite_10 : decode cL_invite 10 = .ok (.ldc 18, 2) := by decide +kernel
theorem dL_invite_12 : decode cL_invite 12 = .ok (.ireturn, 1) := by decide +kernel
theorem dL_invite_13 : decode cL_invite 13 = .ok (.astore 4, 2) := by decide +kernel
theorem dL_invite_15 : decode cL_invite 15 = .ok (.ldc 21, 2) := by decide +kernel
theorem dL_invite_17 : decode cL_invite 17 = .ok (.ireturn, 1) := by decide +kernel
theorem dL_invite_18 : decode cL_invite 18 = .ok (.astore 4, 2) := by decide +kernel
theorem dL_invite_20 : decode cL_invite 20 = .ok (.ldc 38, 2) := by decide +kernel
theorem dL_invite_22 : decode cL_invite 22 = .ok (.ireturn, 1) := by decide +kernel
theorem lkh_invite : LKH yL_invite cL_invite 5 (some .int) [(0, 7, 8, 16), (0, 7, 13, 19), (0, 7, 18, 36)] 4 := ⟨(qW_at 1141 (by decide +kernel) rfl), (qW_at 28 (by decide +kernel) rfl), by decide, by decide, by decide +kernel⟩
theorem stl_invite : Cond.static yL_invite ∈ qW := (qW_at 1140 (by decide +kernel) rfl)
set_option maxRecDepth 100000 in
set_option maxHeartbeats 1600000 in
theorem E0_L_invite (sv : Nat) (p0 p1 p2 : Int32) : MEH yL_invite cL_invite 5 (some .int) [(0, 7, 8, 16), (0, 7, 13, 19), (0, 7, 18, 36)] 8 127 5 41 (fun _ => [.ref sv, .int p0, .int p1, .int p2]) (fun _ mm R => PW0 sv (F_X6_invite sv p0 p1 p2) (fun v => True) mpA mm R) := by
  refine MEH_of (env0 := fun _ => [(0, .ref sv), (1, .int p0), (2, .int p1), (3, .int p2)]) (by decide) (fun _ => by exact Nat.le_of_ble_eq_true rfl) (fun _ => by rfl) (fun k mm R X C hR hN hr hname hP => ?_)
  have X : CX k cL_invite RL := X
  have htr := C.2.2.2.1
  obtain ⟨h1, r, m1, hx, hok, her⟩ := hP
  let T9 : Nat → QM → Prop := fun e m' => ∃ cd, mpA e = some cd ∧ ∀ n, qtop m' ≤ n → R (.ok (some (.int cd))) (stop m' n)
  have hTp : THp k 4 T9 := by
    intro e mm9 H locs ls rest ce q9 a9 b9 hT9 z9 hn9 hl9 hls9 hq9 hv9 hc9 ha9 hb9
    obtain ⟨cd, hcd, hR9⟩ := hT9
    unfold mpA at hcd
    by_cases e1 : e = 1
    · subst e1
      have hcd : some (-1000001 : Int32) = some cd := hcd
      cases hcd
      refine t_catch (e := 1) (hh := [(0, 7, 8, 16), (0, 7, 13, 19), (0, 7, 18, 36)]) (pre := []) (suf := [(0, 7, 13, 19), (0, 7, 18, 36)]) X C.2.1 rfl (by decide) (by decide) (by decide) (qW_at 301 (by decide +kernel) rfl) (qN_at 311 (by decide +kernel) rfl) (fun z hz => absurd hz List.not_mem_nil) (fun q n a b hn ha hb => ?_) H locs ls rest ce q9 a9 b9 z9 hn9 hl9 hls9 hq9 hv9 hc9 ha9 hb9
      refine g_astore (r := some q) (env' := [(4, .ref q)]) X dL_invite_8 (by rw [hN]; decide) rfl ?_
      refine g_ldc (v := (-1000001)) X dL_invite_10 (qW_at 324 (by decide +kernel) rfl) ?_
      exact h_iret X C hr rfl dL_invite_12 ha hb (hR9 n hn)
    · rw [if_neg e1] at hcd
      by_cases e2 : e = 2
      · subst e2
        have hcd : some (-1000002 : Int32) = some cd := hcd
        cases hcd
        refine t_catch (e := 2) (hh := [(0, 7, 8, 16), (0, 7, 13, 19), (0, 7, 18, 36)]) (pre := [(0, 7, 8, 16)]) (suf := [(0, 7, 18, 36)]) X C.2.1 rfl (by decide) (by decide) (by decide) (qW_at 153 (by decide +kernel) rfl) (qN_at 169 (by decide +kernel) rfl) (fun z hz => by
          simp only [List.mem_cons, List.mem_nil_iff, or_false] at hz
          rcases hz with rfl
          · exact ⟨by decide, 1, by decide, by decide, (qW_at 301 (by decide +kernel) rfl)⟩) (fun q n a b hn ha hb => ?_) H locs ls rest ce q9 a9 b9 z9 hn9 hl9 hls9 hq9 hv9 hc9 ha9 hb9
        refine g_astore (r := some q) (env' := [(4, .ref q)]) X dL_invite_13 (by rw [hN]; decide) rfl ?_
        refine g_ldc (v := (-1000002)) X dL_invite_15 (qW_at 297 (by decide +kernel) rfl) ?_
        exact h_iret X C hr rfl dL_invite_17 ha hb (hR9 n hn)
      · rw [if_neg e2] at hcd
        by_cases e3 : e = 3
        · subst e3
          have hcd : some (-1000003 : Int32) = some cd := hcd
          cases hcd
          refine t_catch (e := 3) (hh := [(0, 7, 8, 16), (0, 7, 13, 19), (0, 7, 18, 36)]) (pre := [(0, 7, 8, 16), (0, 7, 13, 19)]) (suf := []) X C.2.1 rfl (by decide) (by decide) (by decide) (qW_at 328 (by decide +kernel) rfl) (qN_at 342 (by decide +kernel) rfl) (fun z hz => by
            simp only [List.mem_cons, List.mem_nil_iff, or_false] at hz
            rcases hz with rfl | rfl
            · exact ⟨by decide, 1, by decide, by decide, (qW_at 301 (by decide +kernel) rfl)⟩
            · exact ⟨by decide, 2, by decide, by decide, (qW_at 153 (by decide +kernel) rfl)⟩) (fun q n a b hn ha hb => ?_) H locs ls rest ce q9 a9 b9 z9 hn9 hl9 hls9 hq9 hv9 hc9 ha9 hb9
          refine g_astore (r := some q) (env' := [(4, .ref q)]) X dL_invite_18 (by rw [hN]; decide) rfl ?_
          refine g_ldc (v := (-1000003)) X dL_invite_20 (qW_at 363 (by decide +kernel) rfl) ?_
          exact h_iret X C hr rfl dL_invite_22 ha hb (hR9 n hn)
        · rw [if_neg e3] at hcd
          exact absurd hcd (by simp)
  refine t_al 0 X dL_invite_0 rfl rfl ?_
  refine g_iload_n 1 X dL_invite_1 rfl rfl ?_
  refine g_iload_n 2 X dL_invite_2 rfl rfl ?_
  refine g_iload_n 3 X dL_invite_3 rfl rfl ?_
  refine p_callV (st := []) (q := sv) (av := [.int p0, .int p1, .int p2]) (T := T9) X hTp htr rfl h1 (M_X6_invite sv p0 p1 p2) lk_X6_invite im_X6_invite se_X6_invite (qW_at 1142 (by decide +kernel) rfl) rfl (by rw [hR]; exact ⟨Nat.le_of_ble_eq_true rfl, Nat.le_of_ble_eq_true rfl⟩) (by exact Nat.le_of_ble_eq_true rfl) (by rw [hR]; exact ⟨Nat.le_of_ble_eq_true rfl, Nat.le_of_ble_eq_true rfl⟩) dL_invite_4 (by rfl) ?_
  unfold qwp
  rw [hx]
  cases r with
  | error e => exact her e rfl
  | ok v =>
    show GG k _ (.int v :: []) m1 _ _ _
    exact h_iret X C hr rfl dL_invite_7 (by rw [hR]; exact Nat.le_of_ble_eq_true rfl) (by rw [hR]; exact Nat.le_of_ble_eq_true rfl) ((hok v rfl).2)
theorem dL_cancel_0 : decode cL_cancel 0 = .ok (.aload_n 0, 1) := by decide +kernel
theorem dL_cancel_1 : decode cL_cancel 1 = .ok (.iload_n 1, 1) := by decide +kernel
theorem dL_cancel_2 : decode cL_cancel 2 = .ok (.invokevirtual 59, 3) := by decide +kernel
theorem dL_cancel_5 : decode cL_cancel 5 = .ok (.ireturn, 1) := by decide +kernel
theorem dL_cancel_6 : decode cL_cancel 6 = .ok (.astore_n 2, 1) := by decide +kernel
theorem dL_cancel_7 : decode cL_cancel 7 = .ok (.ldc 18, 2) := by decide +kernel
theorem dL_cancel_9 : decode cL_cancel 9 = .ok (.ireturn, 1) := by decide +kernel
theorem dL_cancel_10 : decode cL_cancel 10 = .ok (.astore_n 2, 1) := by decide +kernel
theorem dL_cancel_11 : decode cL_cancel 11 = .ok (.ldc 38, 2) := by decide +kernel
theorem dL_cancel_13 : decode cL_cancel 13 = .ok (.ireturn, 1) := by decide +kernel
theorem lkh_cancel : LKH yL_cancel cL_cancel 3 (some .int) [(0, 5, 6, 16), (0, 5, 10, 36)] 2 := ⟨(qW_at 1156 (by decide +kernel) rfl), (qW_at 28 (by decide +kernel) rfl), by decide, by decide, by decide +kernel⟩
theorem stl_cancel : Cond.static yL_cancel ∈ qW := (qW_at 1155 (by decide +kernel) rfl)
set_option maxRecDepth 100000 in
set_option maxHeartbeats 1600000 in
theorem E0_L_cancel (sv : Nat) (p0 : Int32) : MEH yL_cancel cL_cancel 3 (some .int) [(0, 5, 6, 16), (0, 5, 10, 36)] 8 124 3 29 (fun _ => [.ref sv, .int p0]) (fun _ mm R => PW0 sv (F_X6_cancel sv p0) (fun v => True) mpC mm R) := by
  refine MEH_of (env0 := fun _ => [(0, .ref sv), (1, .int p0)]) (by decide) (fun _ => by exact Nat.le_of_ble_eq_true rfl) (fun _ => by rfl) (fun k mm R X C hR hN hr hname hP => ?_)
  have X : CX k cL_cancel RL := X
  have htr := C.2.2.2.1
  obtain ⟨h1, r, m1, hx, hok, her⟩ := hP
  let T9 : Nat → QM → Prop := fun e m' => ∃ cd, mpC e = some cd ∧ ∀ n, qtop m' ≤ n → R (.ok (some (.int cd))) (stop m' n)
  have hTp : THp k 2 T9 := by
    intro e mm9 H locs ls rest ce q9 a9 b9 hT9 z9 hn9 hl9 hls9 hq9 hv9 hc9 ha9 hb9
    obtain ⟨cd, hcd, hR9⟩ := hT9
    unfold mpC at hcd
    by_cases e1 : e = 1
    · subst e1
      have hcd : some (-1000001 : Int32) = some cd := hcd
      cases hcd
      refine t_catch (e := 1) (hh := [(0, 5, 6, 16), (0, 5, 10, 36)]) (pre := []) (suf := [(0, 5, 10, 36)]) X C.2.1 rfl (by decide) (by decide) (by decide) (qW_at 301 (by decide +kernel) rfl) (qN_at 311 (by decide +kernel) rfl) (fun z hz => absurd hz List.not_mem_nil) (fun q n a b hn ha hb => ?_) H locs ls rest ce q9 a9 b9 z9 hn9 hl9 hls9 hq9 hv9 hc9 ha9 hb9
      refine t_as (env' := [(2, .ref q)]) X dL_cancel_6 rfl (by rw [hN]; decide) rfl ?_
      refine g_ldc (v := (-1000001)) X dL_cancel_7 (qW_at 324 (by decide +kernel) rfl) ?_
      exact h_iret X C hr rfl dL_cancel_9 ha hb (hR9 n hn)
    · rw [if_neg e1] at hcd
      by_cases e3 : e = 3
      · subst e3
        have hcd : some (-1000003 : Int32) = some cd := hcd
        cases hcd
        refine t_catch (e := 3) (hh := [(0, 5, 6, 16), (0, 5, 10, 36)]) (pre := [(0, 5, 6, 16)]) (suf := []) X C.2.1 rfl (by decide) (by decide) (by decide) (qW_at 328 (by decide +kernel) rfl) (qN_at 342 (by decide +kernel) rfl) (fun z hz => by
          simp only [List.mem_cons, List.mem_nil_iff, or_false] at hz
          rcases hz with rfl
          · exact ⟨by decide, 1, by decide, by decide, (qW_at 301 (by decide +kernel) rfl)⟩) (fun q n a b hn ha hb => ?_) H locs ls rest ce q9 a9 b9 z9 hn9 hl9 hls9 hq9 hv9 hc9 ha9 hb9
        refine t_as (env' := [(2, .ref q)]) X dL_cancel_10 rfl (by rw [hN]; decide) rfl ?_
        refine g_ldc (v := (-1000003)) X dL_cancel_11 (qW_at 363 (by decide +kernel) rfl) ?_
        exact h_iret X C hr rfl dL_cancel_13 ha hb (hR9 n hn)
      · rw [if_neg e3] at hcd
        exact absurd hcd (by simp)
  refine t_al 0 X dL_cancel_0 rfl rfl ?_
  refine g_iload_n 1 X dL_cancel_1 rfl rfl ?_
  refine p_callV (st := []) (q := sv) (av := [.int p0]) (T := T9) X hTp htr rfl h1 (M_X6_cancel sv p0) lk_X6_cancel im_X6_cancel se_X6_cancel (qW_at 1157 (by decide +kernel) rfl) rfl (by rw [hR]; exact ⟨Nat.le_of_ble_eq_true rfl, Nat.le_of_ble_eq_true rfl⟩) (by exact Nat.le_of_ble_eq_true rfl) (by rw [hR]; exact ⟨Nat.le_of_ble_eq_true rfl, Nat.le_of_ble_eq_true rfl⟩) dL_cancel_2 (by rfl) ?_
  unfold qwp
  rw [hx]
  cases r with
  | error e => exact her e rfl
  | ok v =>
    show GG k _ (.int v :: []) m1 _ _ _
    exact h_iret X C hr rfl dL_cancel_5 (by rw [hR]; exact Nat.le_of_ble_eq_true rfl) (by rw [hR]; exact Nat.le_of_ble_eq_true rfl) ((hok v rfl).2)
theorem dL_send_0 : decode cL_send 0 = .ok (.aload_n 0, 1) := by decide +kernel
theorem dL_send_1 : decode cL_send 1 = .ok (.iload_n 1, 1) := by decide +kernel
theorem dL_send_2 : decode cL_send 2 = .ok (.invokevirtual 63, 3) := by decide +kernel
theorem dL_send_5 : decode cL_send 5 = .ok (.ireturn, 1) := by decide +kernel
theorem dL_send_6 : decode cL_send 6 = .ok (.astore_n 2, 1) := by decide +kernel
theorem dL_send_7 : decode cL_send 7 = .ok (.ldc 18, 2) := by decide +kernel
theorem dL_send_9 : decode cL_send 9 = .ok (.ireturn, 1) := by decide +kernel
theorem dL_send_10 : decode cL_send 10 = .ok (.astore_n 2, 1) := by decide +kernel
theorem dL_send_11 : decode cL_send 11 = .ok (.ldc 38, 2) := by decide +kernel
theorem dL_send_13 : decode cL_send 13 = .ok (.ireturn, 1) := by decide +kernel
theorem lkh_send : LKH yL_send cL_send 3 (some .int) [(0, 5, 6, 16), (0, 5, 10, 36)] 2 := ⟨(qW_at 1170 (by decide +kernel) rfl), (qW_at 28 (by decide +kernel) rfl), by decide, by decide, by decide +kernel⟩
theorem stl_send : Cond.static yL_send ∈ qW := (qW_at 1169 (by decide +kernel) rfl)
set_option maxRecDepth 100000 in
set_option maxHeartbeats 1600000 in
theorem E0_L_send (sv : Nat) (p0 : Int32) : MEH yL_send cL_send 3 (some .int) [(0, 5, 6, 16), (0, 5, 10, 36)] 9 147 8 84 (fun _ => [.ref sv, .int p0]) (fun _ mm R => PW0 sv (F_X6_send sv p0) (fun v => True) mpC mm R) := by
  refine MEH_of (env0 := fun _ => [(0, .ref sv), (1, .int p0)]) (by decide) (fun _ => by exact Nat.le_of_ble_eq_true rfl) (fun _ => by rfl) (fun k mm R X C hR hN hr hname hP => ?_)
  have X : CX k cL_send RL := X
  have htr := C.2.2.2.1
  obtain ⟨h1, r, m1, hx, hok, her⟩ := hP
  let T9 : Nat → QM → Prop := fun e m' => ∃ cd, mpC e = some cd ∧ ∀ n, qtop m' ≤ n → R (.ok (some (.int cd))) (stop m' n)
  have hTp : THp k 2 T9 := by
    intro e mm9 H locs ls rest ce q9 a9 b9 hT9 z9 hn9 hl9 hls9 hq9 hv9 hc9 ha9 hb9
    obtain ⟨cd, hcd, hR9⟩ := hT9
    unfold mpC at hcd
    by_cases e1 : e = 1
    · subst e1
      have hcd : some (-1000001 : Int32) = some cd := hcd
      cases hcd
      refine t_catch (e := 1) (hh := [(0, 5, 6, 16), (0, 5, 10, 36)]) (pre := []) (suf := [(0, 5, 10, 36)]) X C.2.1 rfl (by decide) (by decide) (by decide) (qW_at 301 (by decide +kernel) rfl) (qN_at 311 (by decide +kernel) rfl) (fun z hz => absurd hz List.not_mem_nil) (fun q n a b hn ha hb => ?_) H locs ls rest ce q9 a9 b9 z9 hn9 hl9 hls9 hq9 hv9 hc9 ha9 hb9
      refine t_as (env' := [(2, .ref q)]) X dL_send_6 rfl (by rw [hN]; decide) rfl ?_
      refine g_ldc (v := (-1000001)) X dL_send_7 (qW_at 324 (by decide +kernel) rfl) ?_
      exact h_iret X C hr rfl dL_send_9 ha hb (hR9 n hn)
    · rw [if_neg e1] at hcd
      by_cases e3 : e = 3
      · subst e3
        have hcd : some (-1000003 : Int32) = some cd := hcd
        cases hcd
        refine t_catch (e := 3) (hh := [(0, 5, 6, 16), (0, 5, 10, 36)]) (pre := [(0, 5, 6, 16)]) (suf := []) X C.2.1 rfl (by decide) (by decide) (by decide) (qW_at 328 (by decide +kernel) rfl) (qN_at 342 (by decide +kernel) rfl) (fun z hz => by
          simp only [List.mem_cons, List.mem_nil_iff, or_false] at hz
          rcases hz with rfl
          · exact ⟨by decide, 1, by decide, by decide, (qW_at 301 (by decide +kernel) rfl)⟩) (fun q n a b hn ha hb => ?_) H locs ls rest ce q9 a9 b9 z9 hn9 hl9 hls9 hq9 hv9 hc9 ha9 hb9
        refine t_as (env' := [(2, .ref q)]) X dL_send_10 rfl (by rw [hN]; decide) rfl ?_
        refine g_ldc (v := (-1000003)) X dL_send_11 (qW_at 363 (by decide +kernel) rfl) ?_
        exact h_iret X C hr rfl dL_send_13 ha hb (hR9 n hn)
      · rw [if_neg e3] at hcd
        exact absurd hcd (by simp)
  refine t_al 0 X dL_send_0 rfl rfl ?_
  refine g_iload_n 1 X dL_send_1 rfl rfl ?_
  refine p_callV (st := []) (q := sv) (av := [.int p0]) (T := T9) X hTp htr rfl h1 (M_X6_send sv p0) lk_X6_send im_X6_send se_X6_send (qW_at 1171 (by decide +kernel) rfl) rfl (by rw [hR]; exact ⟨Nat.le_of_ble_eq_true rfl, Nat.le_of_ble_eq_true rfl⟩) (by exact Nat.le_of_ble_eq_true rfl) (by rw [hR]; exact ⟨Nat.le_of_ble_eq_true rfl, Nat.le_of_ble_eq_true rfl⟩) dL_send_2 (by rfl) ?_
  unfold qwp
  rw [hx]
  cases r with
  | error e => exact her e rfl
  | ok v =>
    show GG k _ (.int v :: []) m1 _ _ _
    exact h_iret X C hr rfl dL_send_5 (by rw [hR]; exact Nat.le_of_ble_eq_true rfl) (by rw [hR]; exact Nat.le_of_ble_eq_true rfl) ((hok v rfl).2)
