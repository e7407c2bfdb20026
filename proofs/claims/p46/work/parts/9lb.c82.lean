/-! the bytes of the law's own methods that ask the server -/
theorem dL_take_0 : decode cL_take 0 = .ok (.aload_n 0, 1) := by decide +kernel
theorem dL_take_1 : decode cL_take 1 = .ok (.iload_n 1, 1) := by decide +kernel
theorem dL_take_2 : decode cL_take 2 = .ok (.invokevirtual 66, 3) := by decide +kernel
theorem dL_take_5 : decode cL_take 5 = .ok (.ireturn, 1) := by decide +kernel
theorem dL_take_6 : decode cL_take 6 = .ok (.astore_n 2, 1) := by decide +kernel
theorem dL_take_7 : decode cL_take 7 = .ok (.ldc 18, 2) := by decide +kernel
theorem dL_take_9 : decode cL_take 9 = .ok (.ireturn, 1) := by decide +kernel
theorem dL_take_10 : decode cL_take 10 = .ok (.astore_n 2, 1) := by decide +kernel
theorem dL_take_11 : decode cL_take 11 = .ok (.ldc 38, 2) := by decide +kernel
theorem dL_take_13 : decode cL_take 13 = .ok (.ireturn, 1) := by decide +kernel
theorem lkh_take : LKH yL_take cL_take 3 (some .int) [(0, 5, 6, 16), (0, 5, 10, 36)] 2 := ⟨(qW_at 1277 (by decide +kernel) rfl), (qW_at 28 (by decide +kernel) rfl), by decide, by decide, by decide +kernel⟩
theorem stl_take : Cond.static yL_take ∈ qW := (qW_at 1276 (by decide +kernel) rfl)
set_option maxRecDepth 100000 in
set_option maxHeartbeats 1600000 in
theorem E0_L_take (sv : Nat) (p0 : Int32) : MEH yL_take cL_take 3 (some .int) [(0, 5, 6, 16), (0, 5, 10, 36)] 8 124 5 149 (fun _ => [.ref sv, .int p0]) (fun _ mm R => PW0 sv (F_X6_take sv p0) (fun v => True) mpC mm R) := by
  refine MEH_of (env0 := fun _ => [(0, .ref sv), (1, .int p0)]) (by decide) (fun _ => by exact Nat.le_of_ble_eq_true rfl) (fun _ => by rfl) (fun k mm R X C hR hN hr hname hP => ?_)
  have X : CX k cL_take RL := X
  have htr := C.2.2.2.1
  obtain ⟨h1, r, m1, hx, hok, her⟩ := hP
  let T9 : Nat → QM → Prop := fun e m' => ∃ cd, mpC e = some cd ∧ ∀ n, qtop m' ≤ n → R (.ok (some (.int cd))) (stop m' n)
  have hTp : THp k 2 T9 := by
    intro e mm9 H locs ls rest ce q9 a9 b9 hT9 z9 hn9 hl9 hls9 hq9 hv9 hc9 ha9 hb9
    obtain ⟨cd, hcd, hR9⟩ := hT9
    unfold mpC at hcd
    by_cases e1 : e = 1
    · subst e1
      have hcd : some (-1000001 : Int32) = some cd := hcd
      cases hcd
      refine t_catch (e := 1) (hh := [(0, 5, 6, 16), (0, 5, 10, 36)]) (pre := []) (suf := [(0, 5, 10, 36)]) X C.2.1 rfl (by decide) (by decide) (by decide) (qW_at 301 (by decide +kernel) rfl) (qN_at 311 (by decide +kernel) rfl) (fun z hz => absurd hz List.not_mem_nil) (fun q n a b hn ha hb => ?_) H locs ls rest ce q9 a9 b9 z9 hn9 hl9 hls9 hq9 hv9 hc9 ha9 hb9
      refine t_as (env' := [(2, .ref q)]) X dL_take_6 rfl (by rw [hN]; decide) rfl ?_
      refine g_ldc (v := (-1000001)) X dL_take_7 (qW_at 324 (by decide +kernel) rfl) ?_
      exact h_iret X C hr rfl dL_take_9 ha hb (hR9 n hn)
    · rw [if_neg e1] at hcd
      by_cases e3 : e = 3
      · subst e3
        have hcd : some (-1000003 : Int32) = some cd := hcd
        cases hcd
        refine t_catch (e := 3) (hh := [(0, 5, 6, 16), (0, 5, 10, 36)]) (pre := [(0, 5, 6, 16)]) (suf := []) X C.2.1 rfl (by decide) (by decide) (by decide) (qW_at 328 (by decide +kernel) rfl) (qN_at 342 (by decide +kernel) rfl) (fun z hz => by
          simp only [List.mem_cons, List.mem_nil_iff, or_false] at hz
          rcases hz with rfl
          · exact ⟨by decide, 1, by decide, by decide, (qW_at 301 (by decide +kernel) rfl)⟩) (fun q n a b hn ha hb => ?_) H locs ls rest ce q9 a9 b9 z9 hn9 hl9 hls9 hq9 hv9 hc9 ha9 hb9
        refine t_as (env' := [(2, .ref q)]) X dL_take_10 rfl (by rw [hN]; decide) rfl ?_
        refine g_ldc (v := (-1000003)) X dL_take_11 (qW_at 363 (by decide +kernel) rfl) ?_
        exact h_iret X C hr rfl dL_take_13 ha hb (hR9 n hn)
      · rw [if_neg e3] at hcd
        exact absurd hcd (by simp)
  refine t_al 0 X dL_take_0 rfl rfl ?_
  refine g_iload_n 1 X dL_take_1 rfl rfl ?_
  refine p_callV (st := []) (q := sv) (av := [.int p0]) (T := T9) X hTp htr rfl h1 (M_X6_take sv p0) lk_X6_take im_X6_take se_X6_take (qW_at 1278 (by decide +kernel) rfl) rfl (by rw [hR]; exact ⟨Nat.le_of_ble_eq_true rfl, Nat.le_of_ble_eq_true rfl⟩) (by exact Nat.le_of_ble_eq_true rfl) (by rw [hR]; exact ⟨Nat.le_of_ble_eq_true rfl, Nat.le_of_ble_eq_true rfl⟩) dL_take_2 (by rfl) ?_
  unfold qwp
  rw [hx]
  cases r with
  | error e => exact her e rfl
  | ok v =>
    show GG k _ (.int v :: []) m1 _ _ _
    exact h_iret X C hr rfl dL_take_5 (by rw [hR]; exact Nat.le_of_ble_eq_true rfl) (by rw [hR]; exact Nat.le_of_ble_eq_true rfl) ((hok v rfl).2)
theorem dL_refuse_0 : decode cL_refuse 0 = .ok (.aload_n 0, 1) := by decide +kernel
theorem dL_refuse_1 : decode cL_refuse 1 = .ok (.iload_n 1, 1) := by decide +kernel
theorem dL_refuse_2 : decode cL_refuse 2 = .ok (.invokevirtual 69, 3) := by decide +kernel
theorem dL_refuse_5 : decode cL_refuse 5 = .ok (.ireturn, 1) := by decide +kernel
theorem dL_refuse_6 : decode cL_refuse 6 = .ok (.astore_n 2, 1) := by decide +kernel
theorem dL_refuse_7 : decode cL_refuse 7 = .ok (.ldc 18, 2) := by decide +kernel
theorem dL_refuse_9 : decode cL_refuse 9 = .ok (.ireturn, 1) := by decide +kernel
theorem dL_refuse_10 : decode cL_refuse 10 = .ok (.astore_n 2, 1) := by decide +kernel
theorem dL_refuse_11 : decode cL_refuse 11 = .ok (.ldc 38, 2) := by decide +kernel
theorem dL_refuse_13 : decode cL_refuse 13 = .ok (.ireturn, 1) := by decide +kernel
theorem lkh_refuse : LKH yL_refuse cL_refuse 3 (some .int) [(0, 5, 6, 16), (0, 5, 10, 36)] 2 := ⟨(qW_at 1270 (by decide +kernel) rfl), (qW_at 28 (by decide +kernel) rfl), by decide, by decide, by decide +kernel⟩
theorem stl_refuse : Cond.static yL_refuse ∈ qW := (qW_at 1269 (by decide +kernel) rfl)
set_option maxRecDepth 100000 in
set_option maxHeartbeats 1600000 in
theorem E0_L_refuse (sv : Nat) (p0 : Int32) : MEH yL_refuse cL_refuse 3 (some .int) [(0, 5, 6, 16), (0, 5, 10, 36)] 8 124 2 12 (fun _ => [.ref sv, .int p0]) (fun _ mm R => PW0 sv (F_X6_refuse sv p0) (fun v => True) mpC mm R) := by
  refine MEH_of (env0 := fun _ => [(0, .ref sv), (1, .int p0)]) (by decide) (fun _ => by exact Nat.le_of_ble_eq_true rfl) (fun _ => by rfl) (fun k mm R X C hR hN hr hname hP => ?_)
  have X : CX k cL_refuse RL := X
  have htr := C.2.2.2.1
  obtain ⟨h1, r, m1, hx, hok, her⟩ := hP
  let T9 : Nat → QM → Prop := fun e m' => ∃ cd, mpC e = some cd ∧ ∀ n, qtop m' ≤ n → R (.ok (some (.int cd))) (stop m' n)
  have hTp : THp k 2 T9 := by
    intro e mm9 H locs ls rest ce q9 a9 b9 hT9 z9 hn9 hl9 hls9 hq9 hv9 hc9 ha9 hb9
    obtain ⟨cd, hcd, hR9⟩ := hT9
    unfold mpC at hcd
    by_cases e1 : e = 1
    · subst e1
      have hcd : some (-1000001 : Int32) = some cd := hcd
      cases hcd
      refine t_catch (e := 1) (hh := [(0, 5, 6, 16), (0, 5, 10, 36)]) (pre := []) (suf := [(0, 5, 10, 36)]) X C.2.1 rfl (by decide) (by decide) (by decide) (qW_at 301 (by decide +kernel) rfl) (qN_at 311 (by decide +kernel) rfl) (fun z hz => absurd hz List.not_mem_nil) (fun q n a b hn ha hb => ?_) H locs ls rest ce q9 a9 b9 z9 hn9 hl9 hls9 hq9 hv9 hc9 ha9 hb9
      refine t_as (env' := [(2, .ref q)]) X dL_refuse_6 rfl (by rw [hN]; decide) rfl ?_
      refine g_ldc (v := (-1000001)) X dL_refuse_7 (qW_at 324 (by decide +kernel) rfl) ?_
      exact h_iret X C hr rfl dL_refuse_9 ha hb (hR9 n hn)
    · rw [if_neg e1] at hcd
      by_cases e3 : e = 3
      · subst e3
        have hcd : some (-1000003 : Int32) = some cd := hcd
        cases hcd
        refine t_catch (e := 3) (hh := [(0, 5, 6, 16), (0, 5, 10, 36)]) (pre := [(0, 5, 6, 16)]) (suf := []) X C.2.1 rfl (by decide) (by decide) (by decide) (qW_at 328 (by decide +kernel) rfl) (qN_at 342 (by decide +kernel) rfl) (fun z hz => by
          simp only [List.mem_cons, List.mem_nil_iff, or_false] at hz
          rcases hz with rfl
          · exact ⟨by decide, 1, by decide, by decide, (qW_at 301 (by decide +kernel) rfl)⟩) (fun q n a b hn ha hb => ?_) H locs ls rest ce q9 a9 b9 z9 hn9 hl9 hls9 hq9 hv9 hc9 ha9 hb9
        refine t_as (env' := [(2, .ref q)]) X dL_refuse_10 rfl (by rw [hN]; decide) rfl ?_
        refine g_ldc (v := (-1000003)) X dL_refuse_11 (qW_at 363 (by decide +kernel) rfl) ?_
        exact h_iret X C hr rfl dL_refuse_13 ha hb (hR9 n hn)
      · rw [if_neg e3] at hcd
        exact absurd hcd (by simp)
  refine t_al 0 X dL_refuse_0 rfl rfl ?_
  refine g_iload_n 1 X dL_refuse_1 rfl rfl ?_
  refine p_callV (st := []) (q := sv) (av := [.int p0]) (T := T9) X hTp htr rfl h1 (M_X6_refuse sv p0) lk_X6_refuse im_X6_refuse se_X6_refuse (qW_at 1271 (by decide +kernel) rfl) rfl (by rw [hR]; exact ⟨Nat.le_of_ble_eq_true rfl, Nat.le_of_ble_eq_true rfl⟩) (by exact Nat.le_of_ble_eq_true rfl) (by rw [hR]; exact ⟨Nat.le_of_ble_eq_true rfl, Nat.le_of_ble_eq_true rfl⟩) dL_refuse_2 (by rfl) ?_
  unfold qwp
  rw [hx]
  cases r with
  | error e => exact her e rfl
  | ok v =>
    show GG k _ (.int v :: []) m1 _ _ _
    exact h_iret X C hr rfl dL_refuse_5 (by rw [hR]; exact Nat.le_of_ble_eq_true rfl) (by rw [hR]; exact Nat.le_of_ble_eq_true rfl) ((hok v rfl).2)
theorem dL_answer_0 : decode cL_answer 0 = .ok (.aload_n 0, 1) := by decide +kernel
theorem dL_answer_1 : decode cL_answer 1 = .ok (.iload_n 1, 1) := by decide +kernel
theorem dL_answer_2 : decode cL_answer 2 = .ok (.iload_n 2, 1) := by decide +kernel
theorem dL_answer_3 : decode cL_answer 3 = .ok (.iload_n 3, 1) := by decide +kernel
theorem dL_answer_4 : decode cL_answer 4 = .ok (.iload 4, 2) := by decide +kernel
theorem dL_answer_6 : decode cL_answer 6 = .ok (.invokevirtual 72, 3) := by decide +kernel
theorem dL_answer_9 : decode cL_answer 9 = .ok (.ireturn, 1) := by decide +kernel
theorem dL_answer_10 : decode cL_answer 10 = .ok (.astore 5, 2) := by decide +kernel
theorem dL_answer_12 : decode cL_answer 12 = .ok (.ldc 18, 2) := by decide +kernel
theorem dL_answer_14 : decode cL_answer 14 = .ok (.ireturn, 1) := by decide +kernel
theorem dL_answer_15 : decode cL_answer 15 = .ok (.astore 5, 2) := by decide +kernel
theorem dL_answer_17 : decode cL_answer 17 = .ok (.ldc 21, 2) := by decide +kernel
theorem dL_answer_19 : decode cL_answer 19 = .ok (.ireturn, 1) := by decide +kernel
theorem dL_answer_20 : decode cL_answer 20 = .ok (.astore 5, 2) := by decide +kernel
theorem dL_answer_22 : decode cL_answer 22 = .ok (.ldc 38, 2) := by decide +kernel
theorem dL_answer_24 : decode cL_answer 24 = .ok (.ireturn, 1) := by decide +kernel
theorem lkh_answer : LKH yL_answer cL_answer 6 (some .int) [(0, 9, 10, 16), (0, 9, 15, 19), (0, 9, 20, 36)] 5 := ⟨(qW_at 1249 (by decide +kernel) rfl), (qW_at 28 (by decide +kernel) rfl), by decide, by decide, by decide +kernel⟩
theorem stl_answer : Cond.static yL_answer ∈ qW := (qW_at 1248 (by decide +kernel) rfl)
set_option maxRecDepth 100000 in
set_option maxHeartbeats 1600000 in
theorem E0_L_answer (sv : Nat) (p0 p1 p2 p3 : Int32) : MEH yL_answer cL_answer 6 (some .int) [(0, 9, 10, 16), (0, 9, 15, 19), (0, 9, 20, 36)] 9 150 8 54 (fun _ => [.ref sv, .int p0, .int p1, .int p2, .int p3]) (fun _ mm R => PW0 sv (F_X6_answer sv p0 p1 p2 p3) (fun v => True) mpA mm R) := by
  refine MEH_of (env0 := fun _ => [(0, .ref sv), (1, .int p0), (2, .int p1), (3, .int p2), (4, .int p3)]) (by decide) (fun _ => by exact Nat.le_of_ble_eq_true rfl) (fun _ => by rfl) (fun k mm R X C hR hN hr hname hP => ?_)
  have X : CX k cL_answer RL := X
  have htr := C.2.2.2.1
  obtain ⟨h1, r, m1, hx, hok, her⟩ := hP
  let T9 : Nat → QM → Prop := fun e m' => ∃ cd, mpA e = some cd ∧ ∀ n, qtop m' ≤ n → R (.ok (some (.int cd))) (stop m' n)
  have hTp : THp k 6 T9 := by
    intro e mm9 H locs ls rest ce q9 a9 b9 hT9 z9 hn9 hl9 hls9 hq9 hv9 hc9 ha9 hb9
    obtain ⟨cd, hcd, hR9⟩ := hT9
    unfold mpA at hcd
    by_cases e1 : e = 1
    · subst e1
      have hcd : some (-1000001 : Int32) = some cd := hcd
      cases hcd
      refine t_catch (e := 1) (hh := [(0, 9, 10, 16), (0, 9, 15, 19), (0, 9, 20, 36)]) (pre := []) (suf := [(0, 9, 15, 19), (0, 9, 20, 36)]) X C.2.1 rfl (by decide) (by decide) (by decide) (qW_at 301 (by decide +kernel) rfl) (qN_at 311 (by decide +kernel) rfl) (fun z hz => absurd hz List.not_mem_nil) (fun q n a b hn ha hb => ?_) H locs ls rest ce q9 a9 b9 z9 hn9 hl9 hls9 hq9 hv9 hc9 ha9 hb9
      refine g_astore (r := some q) (env' := [(5, .ref q)]) X dL_answer_10 (by rw [hN]; decide) rfl ?_
      refine g_ldc (v := (-1000001)) X dL_answer_12 (qW_at 324 (by decide +kernel) rfl) ?_
      exact h_iret X C hr rfl dL_answer_14 ha hb (hR9 n hn)
    · rw [if_neg e1] at hcd
      by_cases e2 : e = 2
      · subst e2
        have hcd : some (-1000002 : Int32) = some cd := hcd
        cases hcd
        refine t_catch (e := 2) (hh := [(0, 9, 10, 16), (0, 9, 15, 19), (0, 9, 20, 36)]) (pre := [(0, 9, 10, 16)]) (suf := [(0, 9, 20, 36)]) X C.2.1 rfl (by decide) (by decide) (by decide) (qW_at 153 (by decide +kernel) rfl) (qN_at 169 (by decide +kernel) rfl) (fun z hz => by
          simp only [List.mem_cons, List.mem_nil_iff, or_false] at hz
          rcases hz with rfl
          · exact ⟨by decide, 1, by decide, by decide, (qW_at 301 (by decide +kernel) rfl)⟩) (fun q n a b hn ha hb => ?_) H locs ls rest ce q9 a9 b9 z9 hn9 hl9 hls9 hq9 hv9 hc9 ha9 hb9
        refine g_astore (r := some q) (env' := [(5, .ref q)]) X dL_answer_15 (by rw [hN]; decide) rfl ?_
        refine g_ldc (v := (-1000002)) X dL_answer_17 (qW_at 297 (by decide +kernel) rfl) ?_
        exact h_iret X C hr rfl dL_answer_19 ha hb (hR9 n hn)
      · rw [if_neg e2] at hcd
        by_cases e3 : e = 3
        · subst e3
          have hcd : some (-1000003 : Int32) = some cd := hcd
          cases hcd
          refine t_catch (e := 3) (hh := [(0, 9, 10, 16), (0, 9, 15, 19), (0, 9, 20, 36)]) (pre := [(0, 9, 10, 16), (0, 9, 15, 19)]) (suf := []) X C.2.1 rfl (by decide) (by decide) (by decide) (qW_at 328 (by decide +kernel) rfl) (qN_at 342 (by decide +kernel) rfl) (fun z hz => by
            simp only [List.mem_cons, List.mem_nil_iff, or_false] at hz
            rcases hz with rfl | rfl
            · exact ⟨by decide, 1, by decide, by decide, (qW_at 301 (by decide +kernel) rfl)⟩
            · exact ⟨by decide, 2, by decide, by decide, (qW_at 153 (by decide +kernel) rfl)⟩) (fun q n a b hn ha hb => ?_) H locs ls rest ce q9 a9 b9 z9 hn9 hl9 hls9 hq9 hv9 hc9 ha9 hb9
          refine g_astore (r := some q) (env' := [(5, .ref q)]) X dL_answer_20 (by rw [hN]; decide) rfl ?_
          refine g_ldc (v := (-1000003)) X dL_answer_22 (qW_at 363 (by decide +kernel) rfl) ?_
          exact h_iret X C hr rfl dL_answer_24 ha hb (hR9 n hn)
        · rw [if_neg e3] at hcd
          exact absurd hcd (by simp)
  refine t_al 0 X dL_answer_0 rfl rfl ?_
  refine g_iload_n 1 X dL_answer_1 rfl rfl ?_
  refine g_iload_n 2 X dL_answer_2 rfl rfl ?_
  refine g_iload_n 3 X dL_answer_3 rfl rfl ?_
  refine g_iload 4 X dL_answer_4 rfl ?_
  refine p_callV (st := []) (q := sv) (av := [.int p0, .int p1, .int p2, .int p3]) (T := T9) X hTp htr rfl h1 (M_X6_answer sv p0 p1 p2 p3) lk_X6_answer im_X6_answer se_X6_answer (qW_at 1250 (by decide +kernel) rfl) rfl (by rw [hR]; exact ⟨Nat.le_of_ble_eq_true rfl, Nat.le_of_ble_eq_true rfl⟩) (by exact Nat.le_of_ble_eq_true rfl) (by rw [hR]; exact ⟨Nat.le_of_ble_eq_true rfl, Nat.le_of_ble_eq_true rfl⟩) dL_answer_6 (by rfl) ?_
  unfold qwp
  rw [hx]
  cases r with
  | error e => exact her e rfl
  | ok v =>
    show GG k _ (.int v :: []) m1 _ _ _
    exact h_iret X C hr rfl dL_answer_9 (by rw [hR]; exact Nat.le_of_ble_eq_true rfl) (by rw [hR]; exact Nat.le_of_ble_eq_true rfl) ((hok v rfl).2)
theorem dL_delegate_0 : decode cL_delegate 0 = .ok (.aload_n 0, 1) := by decide +kernel
theorem dL_delegate_1 : decode cL_delegate 1 = .ok (.iload_n 1, 1) := by decide +kernel
theorem dL_delegate_2 : decode cL_delegate 2 = .ok (.iload_n 2, 1) := by decide +kernel
theorem dL_delegate_3 : decode cL_delegate 3 = .ok (.iload_n 3, 1) := by decide +kernel
theorem dL_delegate_4 : decode cL_delegate 4 = .ok (.invokevirtual 75, 3) := by decide +kernel
theorem dL_delegate_7 : decode cL_delegate 7 = .ok (.ireturn, 1) := by decide +kernel
theorem dL_delegate_8 : decode cL_delegate 8 = .ok (.astore 4, 2) := by decide +kernel
theorem dL_delegate_10 : decode cL_delegate 10 = .ok (.ldc 18, 2) := by decide +kernel
theorem dL_delegate_12 : decode cL_delegate 12 = .ok (.ireturn, 1) := by decide +kernel
theorem dL_delegate_13 : decode cL_delegate 13 = .ok (.astore 4, 2) := by decide +kernel
theorem dL_delegate_15 : decode cL_delegate 15 = .ok (.ldc 21, 2) := by decide +kernel
theorem dL_delegate_17 : decode cL_delegate 17 = .ok (.ireturn, 1) := by decide +kernel
theorem dL_delegate_18 : decode cL_delegate 18 = .ok (.astore 4, 2) := by decide +kernel
theorem dL_delegate_20 : decode cL_delegate 20 = .ok (.ldc 38, 2) := by decide +kernel
theorem dL_delegate_22 : decode cL_delegate 22 = .ok (.ireturn, 1) := by decide +kernel
theorem lkh_delegate : LKH yL_delegate cL_delegate 5 (some .int) [(0, 7, 8, 16), (0, 7, 13, 19), (0, 7, 18, 36)] 4 := ⟨(qW_at 1263 (by decide +kernel) rfl), (qW_at 28 (by decide +kernel) rfl), by decide, by decide, by decide +kernel⟩
theorem stl_delegate : Cond.static yL_delegate ∈ qW := (qW_at 1262 (by decide +kernel) rfl)
set_option maxRecDepth 100000 in
set_option maxHeartbeats 1600000 in
theorem E0_L_delegate (sv : Nat) (p0 p1 p2 : Int32) : MEH yL_delegate cL_delegate 5 (some .int) [(0, 7, 8, 16), (0, 7, 13, 19), (0, 7, 18, 36)] 9 149 8 60 (fun _ => [.ref sv, .int p0, .int p1, .int p2]) (fun _ mm R => PW0 sv (F_X6_delegate sv p0 p1 p2) (fun v => True) mpA mm R) := by
  refine MEH_of (env0 := fun _ => [(0, .ref sv), (1, .int p0), (2, .int p1), (3, .int p2)]) (by decide) (fun _ => by exact Nat.le_of_ble_eq_true rfl) (fun _ => by rfl) (fun k mm R X C hR hN hr hname hP => ?_)
  have X : CX k cL_delegate RL := X
  have htr := C.2.2.2.1
  obtain ⟨h1, r, m1, hx, hok, her⟩ := hP
  let T9 : Nat → QM → Prop := fun e m' => ∃ cd, mpA e = some cd ∧ ∀ n, qtop m' ≤ n → R (.ok (some (.int cd))) (stop m' n)
  have hTp : THp k 4 T9 := by
    intro e mm9 H locs ls rest ce q9 a9 b9 hT9 z9 hn9 hl9 hls9 hq9 hv9 hc9 ha9 hb9
    obtain ⟨cd, hcd, hR9⟩ := hT9
    unfold mpA at hcd
    by_cases e1 : e = 1
    · subst e1
      have hcd : some (-1000001 : Int32) = some cd := hcd
      cases hcd
      refine t_catch (e := 1) (hh := [(0, 7, 8, 16), (0, 7, 13, 19), (0, 7, 18, 36)]) (pre := []) (suf := [(0, 7, 13, 19), (0, 7, 18, 36)]) X C.2.1 rfl (by decide) (by decide) (by decide) (qW_at 301 (by decide +kernel) rfl) (qN_at 311 (by decide +kernel) rfl) (fun z hz => absurd hz List.not_mem_nil) (fun q n a b hn ha hb => ?_) H locs ls rest ce q9 a9 b9 z9 hn9 hl9 hls9 hq9 hv9 hc9 ha9 hb9
      refine g_astore (r := some q) (env' := [(4, .ref q)]) X dL_delegate_8 (by rw [hN]; decide) rfl ?_
      refine g_ldc (v := (-1000001)) X dL_delegate_10 (qW_at 324 (by decide +kernel) rfl) ?_
      exact h_iret X C hr rfl dL_delegate_12 ha hb (hR9 n hn)
    · rw [if_neg e1] at hcd
      by_cases e2 : e = 2
      · subst e2
        have hcd : some (-1000002 : Int32) = some cd := hcd
        cases hcd
        refine t_catch (e := 2) (hh := [(0, 7, 8, 16), (0, 7, 13, 19), (0, 7, 18, 36)]) (pre := [(0, 7, 8, 16)]) (suf := [(0, 7, 18, 36)]) X C.2.1 rfl (by decide) (by decide) (by decide) (qW_at 153 (by decide +kernel) rfl) (qN_at 169 (by decide +kernel) rfl) (fun z hz => by
          simp only [List.mem_cons, List.mem_nil_iff, or_false] at hz
          rcases hz with rfl
          · exact ⟨by decide, 1, by decide, by decide, (qW_at 301 (by decide +kernel) rfl)⟩) (fun q n a b hn ha hb => ?_) H locs ls rest ce q9 a9 b9 z9 hn9 hl9 hls9 hq9 hv9 hc9 ha9 hb9
        refine g_astore (r := some q) (env' := [(4, .ref q)]) X dL_delegate_13 (by rw [hN]; decide) rfl ?_
        refine g_ldc (v := (-1000002)) X dL_delegate_15 (qW_at 297 (by decide +kernel) rfl) ?_
        exact h_iret X C hr rfl dL_delegate_17 ha hb (hR9 n hn)
      · rw [if_neg e2] at hcd
        by_cases e3 : e = 3
        · subst e3
          have hcd : some (-1000003 : Int32) = some cd := hcd
          cases hcd
          refine t_catch (e := 3) (hh := [(0, 7, 8, 16), (0, 7, 13, 19), (0, 7, 18, 36)]) (pre := [(0, 7, 8, 16), (0, 7, 13, 19)]) (suf := []) X C.2.1 rfl (by decide) (by decide) (by decide) (qW_at 328 (by decide +kernel) rfl) (qN_at 342 (by decide +kernel) rfl) (fun z hz => by
            simp only [List.mem_cons, List.mem_nil_iff, or_false] at hz
            rcases hz with rfl | rfl
            · exact ⟨by decide, 1, by decide, by decide, (qW_at 301 (by decide +kernel) rfl)⟩
            · exact ⟨by decide, 2, by decide, by decide, (qW_at 153 (by decide +kernel) rfl)⟩) (fun q n a b hn ha hb => ?_) H locs ls rest ce q9 a9 b9 z9 hn9 hl9 hls9 hq9 hv9 hc9 ha9 hb9
          refine g_astore (r := some q) (env' := [(4, .ref q)]) X dL_delegate_18 (by rw [hN]; decide) rfl ?_
          refine g_ldc (v := (-1000003)) X dL_delegate_20 (qW_at 363 (by decide +kernel) rfl) ?_
          exact h_iret X C hr rfl dL_delegate_22 ha hb (hR9 n hn)
        · rw [if_neg e3] at hcd
          exact absurd hcd (by simp)
  refine t_al 0 X dL_delegate_0 rfl rfl ?_
  refine g_iload_n 1 X dL_delegate_1 rfl rfl ?_
  refine g_iload_n 2 X dL_delegate_2 rfl rfl ?_
  refine g_iload_n 3 X dL_delegate_3 rfl rfl ?_
  refine p_callV (st := []) (q := sv) (av := [.int p0, .int p1, .int p2]) (T := T9) X hTp htr rfl h1 (M_X6_delegate sv p0 p1 p2) lk_X6_delegate im_X6_delegate se_X6_delegate (qW_at 1264 (by decide +kernel) rfl) rfl (by rw [hR]; exact ⟨Nat.le_of_ble_eq_true rfl, Nat.le_of_ble_eq_true rfl⟩) (by exact Nat.le_of_ble_eq_true rfl) (by rw [hR]; exact ⟨Nat.le_of_ble_eq_true rfl, Nat.le_of_ble_eq_true rfl⟩) dL_delegate_4 (by rfl) ?_
  unfold qwp
  rw [hx]
  cases r with
  | error e => exact her e rfl
  | ok v =>
    show GG k _ (.int v :: []) m1 _ _ _
    exact h_iret X C hr rfl dL_delegate_7 (by rw [hR]; exact Nat.le_of_ble_eq_true rfl) (by rw [hR]; exact Nat.le_of_ble_eq_true rfl) ((hok v rfl).2)
theorem dL_propose_0 : decode cL_propose 0 = .ok (.aload_n 0, 1) := by decide +kernel
theorem dL_propose_1 : decode cL_propose 1 = .ok (.iload_n 1, 1) := by decide +kernel
theorem dL_propose_2 : decode cL_propose 2 = .ok (.iload_n 2, 1) := by decide +kernel
theorem dL_propose_3 : decode cL_propose 3 = .ok (.iload_n 3, 1) := by decide +kernel
theorem dL_propose_4 : decode cL_propose 4 = .ok (.iload 4, 2) := by decide +kernel
theorem dL_propose_6 : decode cL_propose 6 = .ok (.invokevirtual 78, 3) := by decide +kernel
theorem dL_propose_9 : decode cL_propose 9 = .ok (.ireturn, 1) := by decide +kernel
theorem dL_propose_10 : decode cL_propose 10 = .ok (.astore 5, 2) := by decide +kernel
theorem dL_propose_12 : decode cL_propose 12 = .ok (.ldc 18, 2) := by decide +kernel
theorem dL_propose_14 : decode cL_propose 14 = .ok (.ireturn, 1) := by decide +kernel
theorem dL_propose_15 : decode cL_propose 15 = .ok (.astore 5, 2) := by decide +kernel
theorem dL_propose_17 : decode cL_propose 17 = .ok (.ldc 21, 2) := by decide +kernel
theorem dL_propose_19 : decode cL_propose 19 = .ok (.ireturn, 1) := by decide +kernel
theorem dL_propose_20 : decode cL_propose 20 = .ok (.astore 5, 2) := by decide +kernel
theorem dL_propose_22 : decode cL_propose 22 = .ok (.ldc 38, 2) := by decide +kernel
theorem dL_propose_24 : decode cL_propose 24 = .ok (.ireturn, 1) := by decide +kernel
theorem lkh_propose : LKH yL_propose cL_propose 6 (some .int) [(0, 9, 10, 16), (0, 9, 15, 19), (0, 9, 20, 36)] 5 := ⟨(qW_at 1284 (by decide +kernel) rfl), (qW_at 28 (by decide +kernel) rfl), by decide, by decide, by decide +kernel⟩
theorem stl_propose : Cond.static yL_propose ∈ qW := (qW_at 1283 (by decide +kernel) rfl)
set_option maxRecDepth 100000 in
set_option maxHeartbeats 1600000 in
theorem E0_L_propose (sv : Nat) (p0 p1 p2 p3 : Int32) : MEH yL_propose cL_propose 6 (some .int) [(0, 9, 10, 16), (0, 9, 15, 19), (0, 9, 20, 36)] 10 170 8 54 (fun _ => [.ref sv, .int p0, .int p1, .int p2, .int p3]) (fun _ mm R => PW0 sv (F_X6_propose sv p0 p1 p2 p3) (fun v => True) mpA mm R) := by
  refine MEH_of (env0 := fun _ => [(0, .ref sv), (1, .int p0), (2, .int p1), (3, .int p2), (4, .int p3)]) (by decide) (fun _ => by exact Nat.le_of_ble_eq_true rfl) (fun _ => by rfl) (fun k mm R X C hR hN hr hname hP => ?_)
  have X : CX k cL_propose RL := X
  have htr := C.2.2.2.1
  obtain ⟨h1, r, m1, hx, hok, her⟩ := hP
  let T9 : Nat → QM → Prop := fun e m' => ∃ cd, mpA e = some cd ∧ ∀ n, qtop m' ≤ n → R (.ok (some (.int cd))) (stop m' n)
  have hTp : THp k 6 T9 := by
    intro e mm9 H locs ls rest ce q9 a9 b9 hT9 z9 hn9 hl9 hls9 hq9 hv9 hc9 ha9 hb9
    obtain ⟨cd, hcd, hR9⟩ := hT9
    unfold mpA at hcd
    by_cases e1 : e = 1
    · subst e1
      have hcd : some (-1000001 : Int32) = some cd := hcd
      cases hcd
      refine t_catch (e := 1) (hh := [(0, 9, 10, 16), (0, 9, 15, 19), (0, 9, 20, 36)]) (pre := []) (suf := [(0, 9, 15, 19), (0, 9, 20, 36)]) X C.2.1 rfl (by decide) (by decide) (by decide) (qW_at 301 (by decide +kernel) rfl) (qN_at 311 (by decide +kernel) rfl) (fun z hz => absurd hz List.not_mem_nil) (fun q n a b hn ha hb => ?_) H locs ls rest ce q9 a9 b9 z9 hn9 hl9 hls9 hq9 hv9 hc9 ha9 hb9
      refine g_astore (r := some q) (env' := [(5, .ref q)]) X dL_propose_10 (by rw [hN]; decide) rfl ?_
      refine g_ldc (v := (-1000001)) X dL_propose_12 (qW_at 324 (by decide +kernel) rfl) ?_
      exact h_iret X C hr rfl dL_propose_14 ha hb (hR9 n hn)
    · rw [if_neg e1] at hcd
      by_cases e2 : e = 2
      · subst e2
        have hcd : some (-1000002 : Int32) = some cd := hcd
        cases hcd
        refine t_catch (e := 2) (hh := [(0, 9, 10, 16), (0, 9, 15, 19), (0, 9, 20, 36)]) (pre := [(0, 9, 10, 16)]) (suf := [(0, 9, 20, 36)]) X C.2.1 rfl (by decide) (by decide) (by decide) (qW_at 153 (by decide +kernel) rfl) (qN_at 169 (by decide +kernel) rfl) (fun z hz => by
          simp only [List.mem_cons, List.mem_nil_iff, or_false] at hz
          rcases hz with rfl
          · exact ⟨by decide, 1, by decide, by decide, (qW_at 301 (by decide +kernel) rfl)⟩) (fun q n a b hn ha hb => ?_) H locs ls rest ce q9 a9 b9 z9 hn9 hl9 hls9 hq9 hv9 hc9 ha9 hb9
        refine g_astore (r := some q) (env' := [(5, .ref q)]) X dL_propose_15 (by rw [hN]; decide) rfl ?_
        refine g_ldc (v := (-1000002)) X dL_propose_17 (qW_at 297 (by decide +kernel) rfl) ?_
        exact h_iret X C hr rfl dL_propose_19 ha hb (hR9 n hn)
      · rw [if_neg e2] at hcd
        by_cases e3 : e = 3
        · subst e3
          have hcd : some (-1000003 : Int32) = some cd := hcd
          cases hcd
          refine t_catch (e := 3) (hh := [(0, 9, 10, 16), (0, 9, 15, 19), (0, 9, 20, 36)]) (pre := [(0, 9, 10, 16), (0, 9, 15, 19)]) (suf := []) X C.2.1 rfl (by decide) (by decide) (by decide) (qW_at 328 (by decide +kernel) rfl) (qN_at 342 (by decide +kernel) rfl) (fun z hz => by
            simp only [List.mem_cons, List.mem_nil_iff, or_false] at hz
            rcases hz with rfl | rfl
            · exact ⟨by decide, 1, by decide, by decide, (qW_at 301 (by decide +kernel) rfl)⟩
            · exact ⟨by decide, 2, by decide, by decide, (qW_at 153 (by decide +kernel) rfl)⟩) (fun q n a b hn ha hb => ?_) H locs ls rest ce q9 a9 b9 z9 hn9 hl9 hls9 hq9 hv9 hc9 ha9 hb9
          refine g_astore (r := some q) (env' := [(5, .ref q)]) X dL_propose_20 (by rw [hN]; decide) rfl ?_
          refine g_ldc (v := (-1000003)) X dL_propose_22 (qW_at 363 (by decide +kernel) rfl) ?_
          exact h_iret X C hr rfl dL_propose_24 ha hb (hR9 n hn)
        · rw [if_neg e3] at hcd
          exact absurd hcd (by simp)
  refine t_al 0 X dL_propose_0 rfl rfl ?_
  refine g_iload_n 1 X dL_propose_1 rfl rfl ?_
  refine g_iload_n 2 X dL_propose_2 rfl rfl ?_
  refine g_iload_n 3 X dL_propose_3 rfl rfl ?_
  refine g_iload 4 X dL_propose_4 rfl ?_
  refine p_callV (st := []) (q := sv) (av := [.int p0, .int p1, .int p2, .int p3]) (T := T9) X hTp htr rfl h1 (M_X6_propose sv p0 p1 p2 p3) lk_X6_propose im_X6_propose se_X6_propose (qW_at 1285 (by decide +kernel) rfl) rfl (by rw [hR]; exact ⟨Nat.le_of_ble_eq_true rfl, Nat.le_of_ble_eq_true rfl⟩) (by exact Nat.le_of_ble_eq_true rfl) (by rw [hR]; exact ⟨Nat.le_of_ble_eq_true rfl, Nat.le_of_ble_eq_true rfl⟩) dL_propose_6 (by rfl) ?_
  unfold qwp
  rw [hx]
  cases r with
  | error e => exact her e rfl
  | ok v =>
    show GG k _ (.int v :: []) m1 _ _ _
    exact h_iret X C hr rfl dL_propose_9 (by rw [hR]; exact Nat.le_of_ble_eq_true rfl) (by rw [hR]; exact Nat.le_of_ble_eq_true rfl) ((hok v rfl).2)
theorem dL_deliver_0 : decode cL_deliver 0 = .ok (.aload_n 0, 1) := by decide +kernel
theorem dL_deliver_1 : decode cL_deliver 1 = .ok (.iload_n 1, 1) := by decide +kernel
theorem dL_deliver_2 : decode cL_deliver 2 = .ok (.invokevirtual 81, 3) := by decide +kernel
theorem dL_deliver_5 : decode cL_deliver 5 = .ok (.ifCond .eq 7, 3) := by decide +kernel
theorem dL_deliver_8 : decode cL_deliver 8 = .ok (.iconst 1, 1) := by decide +kernel
theorem dL_deliver_9 : decode cL_deliver 9 = .ok (.goto 4, 3) := by decide +kernel
theorem dL_deliver_12 : decode cL_deliver 12 = .ok (.iconst 0, 1) := by decide +kernel
theorem dL_deliver_13 : decode cL_deliver 13 = .ok (.ireturn, 1) := by decide +kernel
theorem dL_deliver_14 : decode cL_deliver 14 = .ok (.astore_n 2, 1) := by decide +kernel
theorem dL_deliver_15 : decode cL_deliver 15 = .ok (.ldc 18, 2) := by decide +kernel
theorem dL_deliver_17 : decode cL_deliver 17 = .ok (.ireturn, 1) := by decide +kernel
theorem lkh_deliver : LKH yL_deliver cL_deliver 3 (some .int) [(0, 13, 14, 16)] 2 := ⟨(qW_at 618 (by decide +kernel) rfl), (qW_at 28 (by decide +kernel) rfl), by decide, by decide, by decide +kernel⟩
theorem stl_deliver : Cond.static yL_deliver ∈ qW := (qW_at 617 (by decide +kernel) rfl)
set_option maxRecDepth 100000 in
set_option maxHeartbeats 1600000 in
theorem E0_L_deliver (sv : Nat) (p0 : Int32) : MEH yL_deliver cL_deliver 3 (some .int) [(0, 13, 14, 16)] 8 125 1 6 (fun _ => [.ref sv, .int p0]) (fun _ mm R => PW0 sv (F_X6_deliver sv p0) (fun v => (v = 0 ∨ v = 1)) mpD mm R) := by
  refine MEH_of (env0 := fun _ => [(0, .ref sv), (1, .int p0)]) (by decide) (fun _ => by exact Nat.le_of_ble_eq_true rfl) (fun _ => by rfl) (fun k mm R X C hR hN hr hname hP => ?_)
  have X : CX k cL_deliver RL := X
  have htr := C.2.2.2.1
  obtain ⟨h1, r, m1, hx, hok, her⟩ := hP
  let T9 : Nat → QM → Prop := fun e m' => ∃ cd, mpD e = some cd ∧ ∀ n, qtop m' ≤ n → R (.ok (some (.int cd))) (stop m' n)
  have hTp : THp k 2 T9 := by
    intro e mm9 H locs ls rest ce q9 a9 b9 hT9 z9 hn9 hl9 hls9 hq9 hv9 hc9 ha9 hb9
    obtain ⟨cd, hcd, hR9⟩ := hT9
    unfold mpD at hcd
    by_cases e1 : e = 1
    · subst e1
      have hcd : some (-1000001 : Int32) = some cd := hcd
      cases hcd
      refine t_catch (e := 1) (hh := [(0, 13, 14, 16)]) (pre := []) (suf := []) X C.2.1 rfl (by decide) (by decide) (by decide) (qW_at 301 (by decide +kernel) rfl) (qN_at 311 (by decide +kernel) rfl) (fun z hz => absurd hz List.not_mem_nil) (fun q n a b hn ha hb => ?_) H locs ls rest ce q9 a9 b9 z9 hn9 hl9 hls9 hq9 hv9 hc9 ha9 hb9
      refine t_as (env' := [(2, .ref q)]) X dL_deliver_14 rfl (by rw [hN]; decide) rfl ?_
      refine g_ldc (v := (-1000001)) X dL_deliver_15 (qW_at 324 (by decide +kernel) rfl) ?_
      exact h_iret X C hr rfl dL_deliver_17 ha hb (hR9 n hn)
    · rw [if_neg e1] at hcd
      exact absurd hcd (by simp)
  refine t_al 0 X dL_deliver_0 rfl rfl ?_
  refine g_iload_n 1 X dL_deliver_1 rfl rfl ?_
  refine p_callV (st := []) (q := sv) (av := [.int p0]) (T := T9) X hTp htr rfl h1 (M_X6_deliver sv p0) lk_X6_deliver im_X6_deliver se_X6_deliver (qW_at 619 (by decide +kernel) rfl) rfl (by rw [hR]; exact ⟨Nat.le_of_ble_eq_true rfl, Nat.le_of_ble_eq_true rfl⟩) (by exact Nat.le_of_ble_eq_true rfl) (by rw [hR]; exact ⟨Nat.le_of_ble_eq_true rfl, Nat.le_of_ble_eq_true rfl⟩) dL_deliver_2 (by rfl) ?_
  unfold qwp
  rw [hx]
  cases r with
  | error e => exact her e rfl
  | ok v =>
    show GG k _ (.int v :: []) m1 _ _ _
    rcases (hok v rfl).1 with rfl | rfl
    · refine t_eqT (tgt := 12) X dL_deliver_5 (by decide) rfl ?_
      refine g_iconst (v := 0) X dL_deliver_12 rfl ?_
      exact h_iret X C hr rfl dL_deliver_13 (by rw [hR]; exact Nat.le_of_ble_eq_true rfl) (by rw [hR]; exact Nat.le_of_ble_eq_true rfl) ((hok _ rfl).2)
    · refine t_eqF 12 X dL_deliver_5 (by decide) (by decide) ?_
      refine g_iconst (v := 1) X dL_deliver_8 rfl ?_
      refine g_goto (tgt := 13) X dL_deliver_9 (by decide) ?_
      exact h_iret X C hr rfl dL_deliver_13 (by rw [hR]; exact Nat.le_of_ble_eq_true rfl) (by rw [hR]; exact Nat.le_of_ble_eq_true rfl) ((hok _ rfl).2)
theorem dL_kindOf_0 : decode cL_kindOf 0 = .ok (.aload_n 0, 1) := by decide +kernel
theorem dL_kindOf_1 : decode cL_kindOf 1 = .ok (.iload_n 1, 1) := by decide +kernel
theorem dL_kindOf_2 : decode cL_kindOf 2 = .ok (.invokevirtual 85, 3) := by decide +kernel
theorem dL_kindOf_5 : decode cL_kindOf 5 = .ok (.ireturn, 1) := by decide +kernel
theorem dL_kindOf_6 : decode cL_kindOf 6 = .ok (.astore_n 2, 1) := by decide +kernel
theorem dL_kindOf_7 : decode cL_kindOf 7 = .ok (.ldc 18, 2) := by decide +kernel
theorem dL_kindOf_9 : decode cL_kindOf 9 = .ok (.ireturn, 1) := by decide +kernel
theorem lkh_kindOf : LKH yL_kindOf cL_kindOf 3 (some .int) [(0, 5, 6, 16)] 2 := ⟨(qW_at 561 (by decide +kernel) rfl), (qW_at 28 (by decide +kernel) rfl), by decide, by decide, by decide +kernel⟩
theorem stl_kindOf : Cond.static yL_kindOf ∈ qW := (qW_at 560 (by decide +kernel) rfl)
set_option maxRecDepth 100000 in
set_option maxHeartbeats 1600000 in
theorem E0_L_kindOf (sv : Nat) (p0 : Int32) : MEH yL_kindOf cL_kindOf 3 (some .int) [(0, 5, 6, 16)] 8 123 1 6 (fun _ => [.ref sv, .int p0]) (fun _ mm R => PW0 sv (F_X6_kindOf sv p0) (fun v => True) mpD mm R) := by
  refine MEH_of (env0 := fun _ => [(0, .ref sv), (1, .int p0)]) (by decide) (fun _ => by exact Nat.le_of_ble_eq_true rfl) (fun _ => by rfl) (fun k mm R X C hR hN hr hname hP => ?_)
  have X : CX k cL_kindOf RL := X
  have htr := C.2.2.2.1
  obtain ⟨h1, r, m1, hx, hok, her⟩ := hP
  let T9 : Nat → QM → Prop := fun e m' => ∃ cd, mpD e = some cd ∧ ∀ n, qtop m' ≤ n → R (.ok (some (.int cd))) (stop m' n)
  have hTp : THp k 2 T9 := by
    intro e mm9 H locs ls rest ce q9 a9 b9 hT9 z9 hn9 hl9 hls9 hq9 hv9 hc9 ha9 hb9
    obtain ⟨cd, hcd, hR9⟩ := hT9
    unfold mpD at hcd
    by_cases e1 : e = 1
    · subst e1
      have hcd : some (-1000001 : Int32) = some cd := hcd
      cases hcd
      refine t_catch (e := 1) (hh := [(0, 5, 6, 16)]) (pre := []) (suf := []) X C.2.1 rfl (by decide) (by decide) (by decide) (qW_at 301 (by decide +kernel) rfl) (qN_at 311 (by decide +kernel) rfl) (fun z hz => absurd hz List.not_mem_nil) (fun q n a b hn ha hb => ?_) H locs ls rest ce q9 a9 b9 z9 hn9 hl9 hls9 hq9 hv9 hc9 ha9 hb9
      refine t_as (env' := [(2, .ref q)]) X dL_kindOf_6 rfl (by rw [hN]; decide) rfl ?_
      refine g_ldc (v := (-1000001)) X dL_kindOf_7 (qW_at 324 (by decide +kernel) rfl) ?_
      exact h_iret X C hr rfl dL_kindOf_9 ha hb (hR9 n hn)
    · rw [if_neg e1] at hcd
      exact absurd hcd (by simp)
  refine t_al 0 X dL_kindOf_0 rfl rfl ?_
  refine g_iload_n 1 X dL_kindOf_1 rfl rfl ?_
  refine p_callV (st := []) (q := sv) (av := [.int p0]) (T := T9) X hTp htr rfl h1 (M_X6_kindOf sv p0) lk_X6_kindOf im_X6_kindOf se_X6_kindOf (qW_at 562 (by decide +kernel) rfl) rfl (by rw [hR]; exact ⟨Nat.le_of_ble_eq_true rfl, Nat.le_of_ble_eq_true rfl⟩) (by exact Nat.le_of_ble_eq_true rfl) (by rw [hR]; exact ⟨Nat.le_of_ble_eq_true rfl, Nat.le_of_ble_eq_true rfl⟩) dL_kindOf_2 (by rfl) ?_
  unfold qwp
  rw [hx]
  cases r with
  | error e => exact her e rfl
  | ok v =>
    show GG k _ (.int v :: []) m1 _ _ _
    exact h_iret X C hr rfl dL_kindOf_5 (by rw [hR]; exact Nat.le_of_ble_eq_true rfl) (by rw [hR]; exact Nat.le_of_ble_eq_true rfl) ((hok v rfl).2)
theorem dL_receiver_0 : decode cL_receiver 0 = .ok (.aload_n 0, 1) := by decide +kernel
theorem dL_receiver_1 : decode cL_receiver 1 = .ok (.iload_n 1, 1) := by decide +kernel
theorem dL_receiver_2 : decode cL_receiver 2 = .ok (.invokevirtual 88, 3) := by decide +kernel
theorem dL_receiver_5 : decode cL_receiver 5 = .ok (.ireturn, 1) := by decide +kernel
theorem dL_receiver_6 : decode cL_receiver 6 = .ok (.astore_n 2, 1) := by decide +kernel
theorem dL_receiver_7 : decode cL_receiver 7 = .ok (.ldc 18, 2) := by decide +kernel
theorem dL_receiver_9 : decode cL_receiver 9 = .ok (.ireturn, 1) := by decide +kernel
theorem lkh_receiver : LKH yL_receiver cL_receiver 3 (some .int) [(0, 5, 6, 16)] 2 := ⟨(qW_at 572 (by decide +kernel) rfl), (qW_at 28 (by decide +kernel) rfl), by decide, by decide, by decide +kernel⟩
theorem stl_receiver : Cond.static yL_receiver ∈ qW := (qW_at 571 (by decide +kernel) rfl)
set_option maxRecDepth 100000 in
set_option maxHeartbeats 1600000 in
theorem E0_L_receiver (sv : Nat) (p0 : Int32) : MEH yL_receiver cL_receiver 3 (some .int) [(0, 5, 6, 16)] 8 123 1 6 (fun _ => [.ref sv, .int p0]) (fun _ mm R => PW0 sv (F_X6_receiver sv p0) (fun v => True) mpD mm R) := by
  refine MEH_of (env0 := fun _ => [(0, .ref sv), (1, .int p0)]) (by decide) (fun _ => by exact Nat.le_of_ble_eq_true rfl) (fun _ => by rfl) (fun k mm R X C hR hN hr hname hP => ?_)
  have X : CX k cL_receiver RL := X
  have htr := C.2.2.2.1
  obtain ⟨h1, r, m1, hx, hok, her⟩ := hP
  let T9 : Nat → QM → Prop := fun e m' => ∃ cd, mpD e = some cd ∧ ∀ n, qtop m' ≤ n → R (.ok (some (.int cd))) (stop m' n)
  have hTp : THp k 2 T9 := by
    intro e mm9 H locs ls rest ce q9 a9 b9 hT9 z9 hn9 hl9 hls9 hq9 hv9 hc9 ha9 hb9
    obtain ⟨cd, hcd, hR9⟩ := hT9
    unfold mpD at hcd
    by_cases e1 : e = 1
    · subst e1
      have hcd : some (-1000001 : Int32) = some cd := hcd
      cases hcd
      refine t_catch (e := 1) (hh := [(0, 5, 6, 16)]) (pre := []) (suf := []) X C.2.1 rfl (by decide) (by decide) (by decide) (qW_at 301 (by decide +kernel) rfl) (qN_at 311 (by decide +kernel) rfl) (fun z hz => absurd hz List.not_mem_nil) (fun q n a b hn ha hb => ?_) H locs ls rest ce q9 a9 b9 z9 hn9 hl9 hls9 hq9 hv9 hc9 ha9 hb9
      refine t_as (env' := [(2, .ref q)]) X dL_receiver_6 rfl (by rw [hN]; decide) rfl ?_
      refine g_ldc (v := (-1000001)) X dL_receiver_7 (qW_at 324 (by decide +kernel) rfl) ?_
      exact h_iret X C hr rfl dL_receiver_9 ha hb (hR9 n hn)
    · rw [if_neg e1] at hcd
      exact absurd hcd (by simp)
  refine t_al 0 X dL_receiver_0 rfl rfl ?_
  refine g_iload_n 1 X dL_receiver_1 rfl rfl ?_
  refine p_callV (st := []) (q := sv) (av := [.int p0]) (T := T9) X hTp htr rfl h1 (M_X6_receiver sv p0) lk_X6_receiver im_X6_receiver se_X6_receiver (qW_at 573 (by decide +kernel) rfl) rfl (by rw [hR]; exact ⟨Nat.le_of_ble_eq_true rfl, Nat.le_of_ble_eq_true rfl⟩) (by exact Nat.le_of_ble_eq_true rfl) (by rw [hR]; exact ⟨Nat.le_of_ble_eq_true rfl, Nat.le_of_ble_eq_true rfl⟩) dL_receiver_2 (by rfl) ?_
  unfold qwp
  rw [hx]
  cases r with
  | error e => exact her e rfl
  | ok v =>
    show GG k _ (.int v :: []) m1 _ _ _
    exact h_iret X C hr rfl dL_receiver_5 (by rw [hR]; exact Nat.le_of_ble_eq_true rfl) (by rw [hR]; exact Nat.le_of_ble_eq_true rfl) ((hok v rfl).2)
theorem dL_lineLength_0 : decode cL_lineLength 0 = .ok (.aload_n 0, 1) := by decide +kernel
theorem dL_lineLength_1 : decode cL_lineLength 1 = .ok (.iload_n 1, 1) := by decide +kernel
theorem dL_lineLength_2 : decode cL_lineLength 2 = .ok (.invokevirtual 91, 3) := by decide +kernel
theorem dL_lineLength_5 : decode cL_lineLength 5 = .ok (.ireturn, 1) := by decide +kernel
theorem dL_lineLength_6 : decode cL_lineLength 6 = .ok (.astore_n 2, 1) := by decide +kernel
theorem dL_lineLength_7 : decode cL_lineLength 7 = .ok (.ldc 18, 2) := by decide +kernel
theorem dL_lineLength_9 : decode cL_lineLength 9 = .ok (.ireturn, 1) := by decide +kernel
theorem lkh_lineLength : LKH yL_lineLength cL_lineLength 3 (some .int) [(0, 5, 6, 16)] 2 := ⟨(qW_at 646 (by decide +kernel) rfl), (qW_at 28 (by decide +kernel) rfl), by decide, by decide, by decide +kernel⟩
theorem stl_lineLength : Cond.static yL_lineLength ∈ qW := (qW_at 645 (by decide +kernel) rfl)
set_option maxRecDepth 100000 in
set_option maxHeartbeats 1600000 in
theorem E0_L_lineLength (sv : Nat) (G : GM) (S : MS) (t kk : Int) : MEH yL_lineLength cL_lineLength 3 (some .int) [(0, 5, 6, 16)] 8 176 13 366 (fun _ => [.ref sv, .int (I kk)]) (fun _ mm R => CR sv G S mm ∧ SI t S ∧ t ≤ 600 ∧ (-2147483648 ≤ kk ∧ kk < 2147483648) ∧ (if gK S kk = true then ∀ m', GROW mm m' → R (.ok (some (.int (I (((lineL S kk).length : Nat) : Int))))) m' else ∀ n, qtop mm ≤ n → R (.ok (some (.int (-1000001)))) (stop mm n))) := by
  refine MEH_of (env0 := fun _ => [(0, .ref sv), (1, .int (I kk))]) (by decide) (fun _ => by exact Nat.le_of_ble_eq_true rfl) (fun _ => by rfl) (fun k mm R X C hR hN hr hname hP => ?_)
  have X : CX k cL_lineLength RL := X
  have htr := C.2.2.2.1
  obtain ⟨hC, hs, ht, hk, h⟩ := hP
  let T9 : Nat → QM → Prop := fun e m' => e = 1 ∧ ∀ n, qtop m' ≤ n → R (.ok (some (.int (-1000001)))) (stop m' n)
  have hTp : THp k 2 T9 := by
    intro e mm9 H locs ls rest ce q9 a9 b9 hT9 z9 hn9 hl9 hls9 hq9 hv9 hc9 ha9 hb9
    obtain ⟨rfl, hR9⟩ := hT9
    refine t_catch (e := 1) (hh := [(0, 5, 6, 16)]) (pre := []) (suf := []) X C.2.1 rfl (by decide) (by decide) (by decide) (qW_at 301 (by decide +kernel) rfl) (qN_at 311 (by decide +kernel) rfl) (fun z hz => absurd hz List.not_mem_nil) (fun q n a b hn ha hb => ?_) H locs ls rest ce q9 a9 b9 z9 hn9 hl9 hls9 hq9 hv9 hc9 ha9 hb9
    refine t_as (env' := [(2, .ref q)]) X dL_lineLength_6 rfl (by rw [hN]; decide) rfl ?_
    refine g_ldc (v := (-1000001)) X dL_lineLength_7 (qW_at 324 (by decide +kernel) rfl) ?_
    exact h_iret X C hr rfl dL_lineLength_9 ha hb (hR9 n hn)
  refine t_al 0 X dL_lineLength_0 rfl rfl ?_
  refine g_iload_n 1 X dL_lineLength_1 rfl rfl ?_
  let R1 : RX := (fun r m' => (gK S kk = true ∧ r = .ok (some (.int (I (((lineL S kk).length : Nat) : Int)))) ∧ GROW mm m') ∨ (¬ gK S kk = true ∧ r = .error 1 ∧ m' = mm))
  have hPE : (if gK S kk = true then ∀ m', GROW mm m' → R1 (.ok (some (.int (I (((lineL S kk).length : Nat) : Int))))) m' else R1 (.error 1) mm) := by
    by_cases g : gK S kk = true
    · rw [if_pos g]; exact fun m' q => Or.inl ⟨g, rfl, q⟩
    · rw [if_neg g]; exact Or.inr ⟨g, rfl, rfl⟩
  refine p_callE R1 (st := []) (q := sv) (as := [.int (I kk)]) (T := T9) X hTp htr rfl hC.cf.ty (E_X6_lineLength sv G S t kk) lk_X6_lineLength im_X6_lineLength (qW_at 649 (by decide +kernel) rfl) (qW_at 647 (by decide +kernel) rfl) rfl rfl (by rw [hR]; exact ⟨Nat.le_of_ble_eq_true rfl, Nat.le_of_ble_eq_true rfl⟩) (by exact Nat.le_of_ble_eq_true rfl) (by rw [hR]; exact ⟨Nat.le_of_ble_eq_true rfl, Nat.le_of_ble_eq_true rfl⟩) dL_lineLength_2 (by rfl) (⟨hC, hs, ht, hk, hPE⟩) (fun e m1 q => ?_) (fun v m1 q => ?_)
  · rcases q with ⟨_, q, _⟩ | ⟨g, q, rfl⟩
    · cases q
    · cases q; rw [if_neg g] at h; exact ⟨rfl, h⟩
  · rcases q with ⟨g, q, hg⟩ | ⟨_, q, _⟩
    case inr => cases q
    cases q
    rw [if_pos g] at h
    have hR1 := h m1 hg
    show GG k _ (.int (I (((lineL S kk).length : Nat) : Int)) :: []) m1 _ _ _
    exact h_iret X C hr rfl dL_lineLength_5 (by rw [hR]; exact Nat.le_of_ble_eq_true rfl) (by rw [hR]; exact Nat.le_of_ble_eq_true rfl) (hR1)
theorem dL_lineChar_0 : decode cL_lineChar 0 = .ok (.aload_n 0, 1) := by decide +kernel
theorem dL_lineChar_1 : decode cL_lineChar 1 = .ok (.iload_n 1, 1) := by decide +kernel
theorem dL_lineChar_2 : decode cL_lineChar 2 = .ok (.iload_n 2, 1) := by decide +kernel
theorem dL_lineChar_3 : decode cL_lineChar 3 = .ok (.invokevirtual 94, 3) := by decide +kernel
theorem dL_lineChar_6 : decode cL_lineChar 6 = .ok (.ireturn, 1) := by decide +kernel
theorem dL_lineChar_7 : decode cL_lineChar 7 = .ok (.astore_n 3, 1) := by decide +kernel
theorem dL_lineChar_8 : decode cL_lineChar 8 = .ok (.ldc 18, 2) := by decide +kernel
theorem dL_lineChar_10 : decode cL_lineChar 10 = .ok (.ireturn, 1) := by decide +kernel
theorem lkh_lineChar : LKH yL_lineChar cL_lineChar 4 (some .int) [(0, 6, 7, 16)] 3 := ⟨(qW_at 871 (by decide +kernel) rfl), (qW_at 28 (by decide +kernel) rfl), by decide, by decide, by decide +kernel⟩
theorem stl_lineChar : Cond.static yL_lineChar ∈ qW := (qW_at 870 (by decide +kernel) rfl)
set_option maxRecDepth 100000 in
set_option maxHeartbeats 1600000 in
theorem E0_L_lineChar (sv : Nat) (G : GM) (S : MS) (t kk pl : Int) : MEH yL_lineChar cL_lineChar 4 (some .int) [(0, 6, 7, 16)] 8 178 14 372 (fun _ => [.ref sv, .int (I kk), .int (I pl)]) (fun _ mm R => CR sv G S mm ∧ SI t S ∧ t ≤ 600 ∧ (-2147483648 ≤ kk ∧ kk < 2147483648) ∧ (-2147483648 ≤ pl ∧ pl < 2147483648) ∧ ∀ m', GROW mm m' → (if (gK S kk && decide (0 ≤ pl ∧ pl < (lineL S kk).length)) = true then R (.ok (some (.int (I ((lineL S kk).getD pl.toNat 0))))) m' else ∀ n, qtop m' ≤ n → R (.ok (some (.int (-1000001)))) (stop m' n))) := by
  refine MEH_of (env0 := fun _ => [(0, .ref sv), (1, .int (I kk)), (2, .int (I pl))]) (by decide) (fun _ => by exact Nat.le_of_ble_eq_true rfl) (fun _ => by rfl) (fun k mm R X C hR hN hr hname hP => ?_)
  have X : CX k cL_lineChar RL := X
  have htr := C.2.2.2.1
  obtain ⟨hC, hs, ht, hk, hpl, h⟩ := hP
  let T9 : Nat → QM → Prop := fun e m' => e = 1 ∧ ∀ n, qtop m' ≤ n → R (.ok (some (.int (-1000001)))) (stop m' n)
  have hTp : THp k 3 T9 := by
    intro e mm9 H locs ls rest ce q9 a9 b9 hT9 z9 hn9 hl9 hls9 hq9 hv9 hc9 ha9 hb9
    obtain ⟨rfl, hR9⟩ := hT9
    refine t_catch (e := 1) (hh := [(0, 6, 7, 16)]) (pre := []) (suf := []) X C.2.1 rfl (by decide) (by decide) (by decide) (qW_at 301 (by decide +kernel) rfl) (qN_at 311 (by decide +kernel) rfl) (fun z hz => absurd hz List.not_mem_nil) (fun q n a b hn ha hb => ?_) H locs ls rest ce q9 a9 b9 z9 hn9 hl9 hls9 hq9 hv9 hc9 ha9 hb9
    refine t_as (env' := [(3, .ref q)]) X dL_lineChar_7 rfl (by rw [hN]; decide) rfl ?_
    refine g_ldc (v := (-1000001)) X dL_lineChar_8 (qW_at 324 (by decide +kernel) rfl) ?_
    exact h_iret X C hr rfl dL_lineChar_10 ha hb (hR9 n hn)
  refine t_al 0 X dL_lineChar_0 rfl rfl ?_
  refine g_iload_n 1 X dL_lineChar_1 rfl rfl ?_
  refine g_iload_n 2 X dL_lineChar_2 rfl rfl ?_
  let R1 : RX := (fun r m' => GROW mm m' ∧ (((gK S kk && decide (0 ≤ pl ∧ pl < (lineL S kk).length)) = true ∧ r = .ok (some (.int (I ((lineL S kk).getD pl.toNat 0))))) ∨ (¬ (gK S kk && decide (0 ≤ pl ∧ pl < (lineL S kk).length)) = true ∧ r = .error 1)))
  have hPE : (if gK S kk = true then ∀ m', GROW mm m' → if decide (0 ≤ pl ∧ pl < (lineL S kk).length) = true then R1 (.ok (some (.int (I ((lineL S kk).getD pl.toNat 0))))) m' else R1 (.error 1) m' else R1 (.error 1) mm) := by
    by_cases g : gK S kk = true
    · rw [if_pos g]
      intro m' q
      by_cases g2 : decide (0 ≤ pl ∧ pl < (lineL S kk).length) = true
      · rw [if_pos g2]; exact ⟨q, Or.inl ⟨by rw [g, g2]; rfl, rfl⟩⟩
      · rw [if_neg g2]; exact ⟨q, Or.inr ⟨by rw [g, Bool.eq_false_iff.mpr g2]; decide, rfl⟩⟩
    · rw [if_neg g]; exact ⟨GROW.refl mm, Or.inr ⟨by rw [Bool.eq_false_iff.mpr g, Bool.false_and]; decide, rfl⟩⟩
  refine p_callE R1 (st := []) (q := sv) (as := [.int (I kk), .int (I pl)]) (T := T9) X hTp htr rfl hC.cf.ty (E_X6_lineChar sv G S t kk pl) lk_X6_lineChar im_X6_lineChar (qW_at 874 (by decide +kernel) rfl) (qW_at 872 (by decide +kernel) rfl) rfl rfl (by rw [hR]; exact ⟨Nat.le_of_ble_eq_true rfl, Nat.le_of_ble_eq_true rfl⟩) (by exact Nat.le_of_ble_eq_true rfl) (by rw [hR]; exact ⟨Nat.le_of_ble_eq_true rfl, Nat.le_of_ble_eq_true rfl⟩) dL_lineChar_3 (by rfl) (⟨hC, hs, ht, hk, hpl, hPE⟩) (fun e m1 q => ?_) (fun v m1 q => ?_)
  · obtain ⟨hg, q⟩ := q
    rcases q with ⟨_, q⟩ | ⟨g, q⟩
    · cases q
    · cases q; have h := h m1 hg; rw [if_neg g] at h; exact ⟨rfl, h⟩
  · obtain ⟨hg, q⟩ := q
    rcases q with ⟨g, q⟩ | ⟨_, q⟩
    case inr => cases q
    cases q
    have hR1 := h m1 hg
    rw [if_pos g] at hR1
    show GG k _ (.int (I ((lineL S kk).getD pl.toNat 0)) :: []) m1 _ _ _
    exact h_iret X C hr rfl dL_lineChar_6 (by rw [hR]; exact Nat.le_of_ble_eq_true rfl) (by rw [hR]; exact Nat.le_of_ble_eq_true rfl) (hR1)
theorem dL_isThere_0 : decode cL_isThere 0 = .ok (.aload_n 0, 1) := by decide +kernel
theorem dL_isThere_1 : decode cL_isThere 1 = .ok (.iload_n 1, 1) := by decide +kernel
theorem dL_isThere_2 : decode cL_isThere 2 = .ok (.iload_n 2, 1) := by decide +kernel
theorem dL_isThere_3 : decode cL_isThere 3 = .ok (.invokevirtual 98, 3) := by decide +kernel
theorem dL_isThere_6 : decode cL_isThere 6 = .ok (.ifCond .eq 7, 3) := by decide +kernel
theorem dL_isThere_9 : decode cL_isThere 9 = .ok (.iconst 1, 1) := by decide +kernel
theorem dL_isThere_10 : decode cL_isThere 10 = .ok (.goto 4, 3) := by decide +kernel
theorem dL_isThere_13 : decode cL_isThere 13 = .ok (.iconst 0, 1) := by decide +kernel
theorem dL_isThere_14 : decode cL_isThere 14 = .ok (.ireturn, 1) := by decide +kernel
theorem dL_isThere_15 : decode cL_isThere 15 = .ok (.astore_n 3, 1) := by decide +kernel
theorem dL_isThere_16 : decode cL_isThere 16 = .ok (.ldc 18, 2) := by decide +kernel
theorem dL_isThere_18 : decode cL_isThere 18 = .ok (.ireturn, 1) := by decide +kernel
theorem lkh_isThere : LKH yL_isThere cL_isThere 4 (some .int) [(0, 14, 15, 16)] 3 := ⟨(qW_at 428 (by decide +kernel) rfl), (qW_at 28 (by decide +kernel) rfl), by decide, by decide, by decide +kernel⟩
theorem stl_isThere : Cond.static yL_isThere ∈ qW := (qW_at 427 (by decide +kernel) rfl)
set_option maxRecDepth 100000 in
set_option maxHeartbeats 1600000 in
theorem E0_L_isThere (sv : Nat) (p0 p1 : Int32) : MEH yL_isThere cL_isThere 4 (some .int) [(0, 14, 15, 16)] 8 124 2 12 (fun _ => [.ref sv, .int p0, .int p1]) (fun _ mm R => PW0 sv (F_X6_isThere sv p0 p1) (fun v => (v = 0 ∨ v = 1)) mpD mm R) := by
  refine MEH_of (env0 := fun _ => [(0, .ref sv), (1, .int p0), (2, .int p1)]) (by decide) (fun _ => by exact Nat.le_of_ble_eq_true rfl) (fun _ => by rfl) (fun k mm R X C hR hN hr hname hP => ?_)
  have X : CX k cL_isThere RL := X
  have htr := C.2.2.2.1
  obtain ⟨h1, r, m1, hx, hok, her⟩ := hP
  let T9 : Nat → QM → Prop := fun e m' => ∃ cd, mpD e = some cd ∧ ∀ n, qtop m' ≤ n → R (.ok (some (.int cd))) (stop m' n)
  have hTp : THp k 3 T9 := by
    intro e mm9 H locs ls rest ce q9 a9 b9 hT9 z9 hn9 hl9 hls9 hq9 hv9 hc9 ha9 hb9
    obtain ⟨cd, hcd, hR9⟩ := hT9
    unfold mpD at hcd
    by_cases e1 : e = 1
    · subst e1
      have hcd : some (-1000001 : Int32) = some cd := hcd
      cases hcd
      refine t_catch (e := 1) (hh := [(0, 14, 15, 16)]) (pre := []) (suf := []) X C.2.1 rfl (by decide) (by decide) (by decide) (qW_at 301 (by decide +kernel) rfl) (qN_at 311 (by decide +kernel) rfl) (fun z hz => absurd hz List.not_mem_nil) (fun q n a b hn ha hb => ?_) H locs ls rest ce q9 a9 b9 z9 hn9 hl9 hls9 hq9 hv9 hc9 ha9 hb9
      refine t_as (env' := [(3, .ref q)]) X dL_isThere_15 rfl (by rw [hN]; decide) rfl ?_
      refine g_ldc (v := (-1000001)) X dL_isThere_16 (qW_at 324 (by decide +kernel) rfl) ?_
      exact h_iret X C hr rfl dL_isThere_18 ha hb (hR9 n hn)
    · rw [if_neg e1] at hcd
      exact absurd hcd (by simp)
  refine t_al 0 X dL_isThere_0 rfl rfl ?_
  refine g_iload_n 1 X dL_isThere_1 rfl rfl ?_
  refine g_iload_n 2 X dL_isThere_2 rfl rfl ?_
  refine p_callV (st := []) (q := sv) (av := [.int p0, .int p1]) (T := T9) X hTp htr rfl h1 (M_X6_isThere sv p0 p1) lk_X6_isThere im_X6_isThere se_X6_isThere (qW_at 429 (by decide +kernel) rfl) rfl (by rw [hR]; exact ⟨Nat.le_of_ble_eq_true rfl, Nat.le_of_ble_eq_true rfl⟩) (by exact Nat.le_of_ble_eq_true rfl) (by rw [hR]; exact ⟨Nat.le_of_ble_eq_true rfl, Nat.le_of_ble_eq_true rfl⟩) dL_isThere_3 (by rfl) ?_
  unfold qwp
  rw [hx]
  cases r with
  | error e => exact her e rfl
  | ok v =>
    show GG k _ (.int v :: []) m1 _ _ _
    rcases (hok v rfl).1 with rfl | rfl
    · refine t_eqT (tgt := 13) X dL_isThere_6 (by decide) rfl ?_
      refine g_iconst (v := 0) X dL_isThere_13 rfl ?_
      exact h_iret X C hr rfl dL_isThere_14 (by rw [hR]; exact Nat.le_of_ble_eq_true rfl) (by rw [hR]; exact Nat.le_of_ble_eq_true rfl) ((hok _ rfl).2)
    · refine t_eqF 13 X dL_isThere_6 (by decide) (by decide) ?_
      refine g_iconst (v := 1) X dL_isThere_9 rfl ?_
      refine g_goto (tgt := 14) X dL_isThere_10 (by decide) ?_
      exact h_iret X C hr rfl dL_isThere_14 (by rw [hR]; exact Nat.le_of_ble_eq_true rfl) (by rw [hR]; exact Nat.le_of_ble_eq_true rfl) ((hok _ rfl).2)
theorem dL_sequence_0 : decode cL_sequence 0 = .ok (.aload_n 0, 1) := by decide +kernel
theorem dL_sequence_1 : decode cL_sequence 1 = .ok (.iload_n 1, 1) := by decide +kernel
theorem dL_sequence_2 : decode cL_sequence 2 = .ok (.iload_n 2, 1) := by decide +kernel
theorem dL_sequence_3 : decode cL_sequence 3 = .ok (.invokevirtual 102, 3) := by decide +kernel
theorem dL_sequence_6 : decode cL_sequence 6 = .ok (.ireturn, 1) := by decide +kernel
theorem dL_sequence_7 : decode cL_sequence 7 = .ok (.astore_n 3, 1) := by decide +kernel
theorem dL_sequence_8 : decode cL_sequence 8 = .ok (.ldc 18, 2) := by decide +kernel
theorem dL_sequence_10 : decode cL_sequence 10 = .ok (.ireturn, 1) := by decide +kernel
theorem lkh_sequence : LKH yL_sequence cL_sequence 4 (some .int) [(0, 6, 7, 16)] 3 := ⟨(qW_at 416 (by decide +kernel) rfl), (qW_at 28 (by decide +kernel) rfl), by decide, by decide, by decide +kernel⟩
theorem stl_sequence : Cond.static yL_sequence ∈ qW := (qW_at 415 (by decide +kernel) rfl)
set_option maxRecDepth 100000 in
set_option maxHeartbeats 1600000 in
theorem E0_L_sequence (sv : Nat) (p0 p1 : Int32) : MEH yL_sequence cL_sequence 4 (some .int) [(0, 6, 7, 16)] 8 125 2 12 (fun _ => [.ref sv, .int p0, .int p1]) (fun _ mm R => PW0 sv (F_X6_sequence sv p0 p1) (fun v => True) mpD mm R) := by
  refine MEH_of (env0 := fun _ => [(0, .ref sv), (1, .int p0), (2, .int p1)]) (by decide) (fun _ => by exact Nat.le_of_ble_eq_true rfl) (fun _ => by rfl) (fun k mm R X C hR hN hr hname hP => ?_)
  have X : CX k cL_sequence RL := X
  have htr := C.2.2.2.1
  obtain ⟨h1, r, m1, hx, hok, her⟩ := hP
  let T9 : Nat → QM → Prop := fun e m' => ∃ cd, mpD e = some cd ∧ ∀ n, qtop m' ≤ n → R (.ok (some (.int cd))) (stop m' n)
  have hTp : THp k 3 T9 := by
    intro e mm9 H locs ls rest ce q9 a9 b9 hT9 z9 hn9 hl9 hls9 hq9 hv9 hc9 ha9 hb9
    obtain ⟨cd, hcd, hR9⟩ := hT9
    unfold mpD at hcd
    by_cases e1 : e = 1
    · subst e1
      have hcd : some (-1000001 : Int32) = some cd := hcd
      cases hcd
      refine t_catch (e := 1) (hh := [(0, 6, 7, 16)]) (pre := []) (suf := []) X C.2.1 rfl (by decide) (by decide) (by decide) (qW_at 301 (by decide +kernel) rfl) (qN_at 311 (by decide +kernel) rfl) (fun z hz => absurd hz List.not_mem_nil) (fun q n a b hn ha hb => ?_) H locs ls rest ce q9 a9 b9 z9 hn9 hl9 hls9 hq9 hv9 hc9 ha9 hb9
      refine t_as (env' := [(3, .ref q)]) X dL_sequence_7 rfl (by rw [hN]; decide) rfl ?_
      refine g_ldc (v := (-1000001)) X dL_sequence_8 (qW_at 324 (by decide +kernel) rfl) ?_
      exact h_iret X C hr rfl dL_sequence_10 ha hb (hR9 n hn)
    · rw [if_neg e1] at hcd
      exact absurd hcd (by simp)
  refine t_al 0 X dL_sequence_0 rfl rfl ?_
  refine g_iload_n 1 X dL_sequence_1 rfl rfl ?_
  refine g_iload_n 2 X dL_sequence_2 rfl rfl ?_
  refine p_callV (st := []) (q := sv) (av := [.int p0, .int p1]) (T := T9) X hTp htr rfl h1 (M_X6_sequence sv p0 p1) lk_X6_sequence im_X6_sequence se_X6_sequence (qW_at 417 (by decide +kernel) rfl) rfl (by rw [hR]; exact ⟨Nat.le_of_ble_eq_true rfl, Nat.le_of_ble_eq_true rfl⟩) (by exact Nat.le_of_ble_eq_true rfl) (by rw [hR]; exact ⟨Nat.le_of_ble_eq_true rfl, Nat.le_of_ble_eq_true rfl⟩) dL_sequence_3 (by rfl) ?_
  unfold qwp
  rw [hx]
  cases r with
  | error e => exact her e rfl
  | ok v =>
    show GG k _ (.int v :: []) m1 _ _ _
    exact h_iret X C hr rfl dL_sequence_6 (by rw [hR]; exact Nat.le_of_ble_eq_true rfl) (by rw [hR]; exact Nat.le_of_ble_eq_true rfl) ((hok v rfl).2)
theorem dL_dates_0 : decode cL_dates 0 = .ok (.aload_n 0, 1) := by decide +kernel
theorem dL_dates_1 : decode cL_dates 1 = .ok (.iload_n 1, 1) := by decide +kernel
theorem dL_dates_2 : decode cL_dates 2 = .ok (.iload_n 2, 1) := by decide +kernel
theorem dL_dates_3 : decode cL_dates 3 = .ok (.invokevirtual 105, 3) := by decide +kernel
theorem dL_dates_6 : decode cL_dates 6 = .ok (.ireturn, 1) := by decide +kernel
theorem dL_dates_7 : decode cL_dates 7 = .ok (.astore_n 3, 1) := by decide +kernel
theorem dL_dates_8 : decode cL_dates 8 = .ok (.ldc 18, 2) := by decide +kernel
theorem dL_dates_10 : decode cL_dates 10 = .ok (.ireturn, 1) := by decide +kernel
theorem lkh_dates : LKH yL_dates cL_dates 4 (some .int) [(0, 6, 7, 16)] 3 := ⟨(qW_at 435 (by decide +kernel) rfl), (qW_at 28 (by decide +kernel) rfl), by decide, by decide, by decide +kernel⟩
theorem stl_dates : Cond.static yL_dates ∈ qW := (qW_at 434 (by decide +kernel) rfl)
set_option maxRecDepth 100000 in
set_option maxHeartbeats 1600000 in
theorem E0_L_dates (sv : Nat) (p0 p1 : Int32) : MEH yL_dates cL_dates 4 (some .int) [(0, 6, 7, 16)] 8 125 2 12 (fun _ => [.ref sv, .int p0, .int p1]) (fun _ mm R => PW0 sv (F_X6_dates sv p0 p1) (fun v => True) mpD mm R) := by
  refine MEH_of (env0 := fun _ => [(0, .ref sv), (1, .int p0), (2, .int p1)]) (by decide) (fun _ => by exact Nat.le_of_ble_eq_true rfl) (fun _ => by rfl) (fun k mm R X C hR hN hr hname hP => ?_)
  have X : CX k cL_dates RL := X
  have htr := C.2.2.2.1
  obtain ⟨h1, r, m1, hx, hok, her⟩ := hP
  let T9 : Nat → QM → Prop := fun e m' => ∃ cd, mpD e = some cd ∧ ∀ n, qtop m' ≤ n → R (.ok (some (.int cd))) (stop m' n)
  have hTp : THp k 3 T9 := by
    intro e mm9 H locs ls rest ce q9 a9 b9 hT9 z9 hn9 hl9 hls9 hq9 hv9 hc9 ha9 hb9
    obtain ⟨cd, hcd, hR9⟩ := hT9
    unfold mpD at hcd
    by_cases e1 : e = 1
    · subst e1
      have hcd : some (-1000001 : Int32) = some cd := hcd
      cases hcd
      refine t_catch (e := 1) (hh := [(0, 6, 7, 16)]) (pre := []) (suf := []) X C.2.1 rfl (by decide) (by decide) (by decide) (qW_at 301 (by decide +kernel) rfl) (qN_at 311 (by decide +kernel) rfl) (fun z hz => absurd hz List.not_mem_nil) (fun q n a b hn ha hb => ?_) H locs ls rest ce q9 a9 b9 z9 hn9 hl9 hls9 hq9 hv9 hc9 ha9 hb9
      refine t_as (env' := [(3, .ref q)]) X dL_dates_7 rfl (by rw [hN]; decide) rfl ?_
      refine g_ldc (v := (-1000001)) X dL_dates_8 (qW_at 324 (by decide +kernel) rfl) ?_
      exact h_iret X C hr rfl dL_dates_10 ha hb (hR9 n hn)
    · rw [if_neg e1] at hcd
      exact absurd hcd (by simp)
  refine t_al 0 X dL_dates_0 rfl rfl ?_
  refine g_iload_n 1 X dL_dates_1 rfl rfl ?_
  refine g_iload_n 2 X dL_dates_2 rfl rfl ?_
  refine p_callV (st := []) (q := sv) (av := [.int p0, .int p1]) (T := T9) X hTp htr rfl h1 (M_X6_dates sv p0 p1) lk_X6_dates im_X6_dates se_X6_dates (qW_at 436 (by decide +kernel) rfl) rfl (by rw [hR]; exact ⟨Nat.le_of_ble_eq_true rfl, Nat.le_of_ble_eq_true rfl⟩) (by exact Nat.le_of_ble_eq_true rfl) (by rw [hR]; exact ⟨Nat.le_of_ble_eq_true rfl, Nat.le_of_ble_eq_true rfl⟩) dL_dates_3 (by rfl) ?_
  unfold qwp
  rw [hx]
  cases r with
  | error e => exact her e rfl
  | ok v =>
    show GG k _ (.int v :: []) m1 _ _ _
    exact h_iret X C hr rfl dL_dates_6 (by rw [hR]; exact Nat.le_of_ble_eq_true rfl) (by rw [hR]; exact Nat.le_of_ble_eq_true rfl) ((hok v rfl).2)
theorem dL_dateAt_0 : decode cL_dateAt 0 = .ok (.aload_n 0, 1) := by decide +kernel
theorem dL_dateAt_1 : decode cL_dateAt 1 = .ok (.iload_n 1, 1) := by decide +kernel
theorem dL_dateAt_2 : decode cL_dateAt 2 = .ok (.iload_n 2, 1) := by decide +kernel
theorem dL_dateAt_3 : decode cL_dateAt 3 = .ok (.iload_n 3, 1) := by decide +kernel
theorem dL_dateAt_4 : decode cL_dateAt 4 = .ok (.invokevirtual 108, 3) := by decide +kernel
theorem dL_dateAt_7 : decode cL_dateAt 7 = .ok (.ireturn, 1) := by decide +kernel
theorem dL_dateAt_8 : decode cL_dateAt 8 = .ok (.astore 4, 2) := by decide +kernel
theorem dL_dateAt_10 : decode cL_dateAt 10 = .ok (.ldc 18, 2) := by decide +kernel
theorem dL_dateAt_12 : decode cL_dateAt 12 = .ok (.ireturn, 1) := by decide +kernel
theorem lkh_dateAt : LKH yL_dateAt cL_dateAt 5 (some .int) [(0, 7, 8, 16)] 4 := ⟨(qW_at 442 (by decide +kernel) rfl), (qW_at 28 (by decide +kernel) rfl), by decide, by decide, by decide +kernel⟩
theorem stl_dateAt : Cond.static yL_dateAt ∈ qW := (qW_at 441 (by decide +kernel) rfl)
set_option maxRecDepth 100000 in
set_option maxHeartbeats 1600000 in
theorem E0_L_dateAt (sv : Nat) (p0 p1 p2 : Int32) : MEH yL_dateAt cL_dateAt 5 (some .int) [(0, 7, 8, 16)] 8 126 3 18 (fun _ => [.ref sv, .int p0, .int p1, .int p2]) (fun _ mm R => PW0 sv (F_X6_dateAt sv p0 p1 p2) (fun v => True) mpD mm R) := by
  refine MEH_of (env0 := fun _ => [(0, .ref sv), (1, .int p0), (2, .int p1), (3, .int p2)]) (by decide) (fun _ => by exact Nat.le_of_ble_eq_true rfl) (fun _ => by rfl) (fun k mm R X C hR hN hr hname hP => ?_)
  have X : CX k cL_dateAt RL := X
  have htr := C.2.2.2.1
  obtain ⟨h1, r, m1, hx, hok, her⟩ := hP
  let T9 : Nat → QM → Prop := fun e m' => ∃ cd, mpD e = some cd ∧ ∀ n, qtop m' ≤ n → R (.ok (some (.int cd))) (stop m' n)
  have hTp : THp k 4 T9 := by
    intro e mm9 H locs ls rest ce q9 a9 b9 hT9 z9 hn9 hl9 hls9 hq9 hv9 hc9 ha9 hb9
    obtain ⟨cd, hcd, hR9⟩ := hT9
    unfold mpD at hcd
    by_cases e1 : e = 1
    · subst e1
      have hcd : some (-1000001 : Int32) = some cd := hcd
      cases hcd
      refine t_catch (e := 1) (hh := [(0, 7, 8, 16)]) (pre := []) (suf := []) X C.2.1 rfl (by decide) (by decide) (by decide) (qW_at 301 (by decide +kernel) rfl) (qN_at 311 (by decide +kernel) rfl) (fun z hz => absurd hz List.not_mem_nil) (fun q n a b hn ha hb => ?_) H locs ls rest ce q9 a9 b9 z9 hn9 hl9 hls9 hq9 hv9 hc9 ha9 hb9
      refine g_astore (r := some q) (env' := [(4, .ref q)]) X dL_dateAt_8 (by rw [hN]; decide) rfl ?_
      refine g_ldc (v := (-1000001)) X dL_dateAt_10 (qW_at 324 (by decide +kernel) rfl) ?_
      exact h_iret X C hr rfl dL_dateAt_12 ha hb (hR9 n hn)
    · rw [if_neg e1] at hcd
      exact absurd hcd (by simp)
  refine t_al 0 X dL_dateAt_0 rfl rfl ?_
  refine g_iload_n 1 X dL_dateAt_1 rfl rfl ?_
  refine g_iload_n 2 X dL_dateAt_2 rfl rfl ?_
  refine g_iload_n 3 X dL_dateAt_3 rfl rfl ?_
  refine p_callV (st := []) (q := sv) (av := [.int p0, .int p1, .int p2]) (T := T9) X hTp htr rfl h1 (M_X6_dateAt sv p0 p1 p2) lk_X6_dateAt im_X6_dateAt se_X6_dateAt (qW_at 443 (by decide +kernel) rfl) rfl (by rw [hR]; exact ⟨Nat.le_of_ble_eq_true rfl, Nat.le_of_ble_eq_true rfl⟩) (by exact Nat.le_of_ble_eq_true rfl) (by rw [hR]; exact ⟨Nat.le_of_ble_eq_true rfl, Nat.le_of_ble_eq_true rfl⟩) dL_dateAt_4 (by rfl) ?_
  unfold qwp
  rw [hx]
  cases r with
  | error e => exact her e rfl
  | ok v =>
    show GG k _ (.int v :: []) m1 _ _ _
    exact h_iret X C hr rfl dL_dateAt_7 (by rw [hR]; exact Nat.le_of_ble_eq_true rfl) (by rw [hR]; exact Nat.le_of_ble_eq_true rfl) ((hok v rfl).2)
