/-! the bytes of the law's own methods that ask the server -/
theorem dL_begin_0 : decode cL_begin 0 = .ok (.aload_n 0, 1) := by decide +kernel
theorem dL_begin_1 : decode cL_begin 1 = .ok (.iload_n 1, 1) := by decide +kernel
theorem dL_begin_2 : decode cL_begin 2 = .ok (.iload_n 2, 1) := by decide +kernel
theorem dL_begin_3 : decode cL_begin 3 = .ok (.iload_n 3, 1) := by decide +kernel
theorem dL_begin_4 : decode cL_begin 4 = .ok (.invokevirtual 111, 3) := by decide +kernel
theorem dL_begin_7 : decode cL_begin 7 = .ok (.ireturn, 1) := by decide +kernel
theorem dL_begin_8 : decode cL_begin 8 = .ok (.astore 4, 2) := by decide +kernel
theorem dL_begin_10 : decode cL_begin 10 = .ok (.ldc 18, 2) := by decide +kernel
theorem dL_begin_12 : decode cL_begin 12 = .ok (.ireturn, 1) := by decide +kernel
theorem dL_begin_13 : decode cL_begin 13 = .ok (.astore 4, 2) := by decide +kernel
theorem dL_begin_15 : decode cL_begin 15 = .ok (.ldc 21, 2) := by decide +kernel
theorem dL_begin_17 : decode cL_begin 17 = .ok (.ireturn, 1) := by decide +kernel
theorem dL_begin_18 : decode cL_begin 18 = .ok (.astore 4, 2) := by decide +kernel
theorem dL_begin_20 : decode cL_begin 20 = .ok (.ldc 38, 2) := by decide +kernel
theorem dL_begin_22 : decode cL_begin 22 = .ok (.ireturn, 1) := by decide +kernel
theorem lkh_begin : LKH yL_begin cL_begin 5 (some .int) [(0, 7, 8, 16), (0, 7, 13, 19), (0, 7, 18, 36)] 4 := ⟨(qW_at 449 (by decide +kernel) rfl), (qW_at 28 (by decide +kernel) rfl), by decide, by decide, by decide +kernel⟩
theorem stl_begin : Cond.static yL_begin ∈ qW := (qW_at 448 (by decide +kernel) rfl)
set_option maxRecDepth 100000 in
set_option maxHeartbeats 1600000 in
theorem E0_L_begin (sv : Nat) (p0 p1 p2 : Int32) : MEH yL_begin cL_begin 5 (some .int) [(0, 7, 8, 16), (0, 7, 13, 19), (0, 7, 18, 36)] 9 145 4 24 (fun _ => [.ref sv, .int p0, .int p1, .int p2]) (fun _ mm R => PW0 sv (F_X6_begin sv p0 p1 p2) (fun v => True) mpA mm R) := by
  refine MEH_of (env0 := fun _ => [(0, .ref sv), (1, .int p0), (2, .int p1), (3, .int p2)]) (by decide) (fun _ => by exact Nat.le_of_ble_eq_true rfl) (fun _ => by rfl) (fun k mm R X C hR hN hr hname hP => ?_)
  have X : CX k cL_begin RL := X
  have htr := C.2.2.2.1
  obtain ⟨h1, r, m1, hx, hok, her⟩ := hP
  let T9 : Nat → QM → Prop := fun e m' => ∃ cd, mpA e = some cd ∧ ∀ n, qtop m' ≤ n → R (.ok (some (.int cd))) (stop m' n)
  have hTp : THp k 4 T9 := by
    intro e mm9 H locs ls rest ce q9 a9 b9 hT9 z9 hn9 hl9 hls9 hq9 hv9 hc9 ha9 hb9
    obtain ⟨cd, hcd, hR9⟩ := hT9
    unfold mpA at hcd
    by_cases e1 : e = 1
    · subst e1
      have hcd : some (-1000001 : Int32) = some cd := hcd
      cases hcd
      refine t_catch (e := 1) (hh := [(0, 7, 8, 16), (0, 7, 13, 19), (0, 7, 18, 36)]) (pre := []) (suf := [(0, 7, 13, 19), (0, 7, 18, 36)]) X C.2.1 rfl (by decide) (by decide) (by decide) (qW_at 301 (by decide +kernel) rfl) (qN_at 311 (by decide +kernel) rfl) (fun z hz => absurd hz List.not_mem_nil) (fun q n a b hn ha hb => ?_) H locs ls rest ce q9 a9 b9 z9 hn9 hl9 hls9 hq9 hv9 hc9 ha9 hb9
      refine g_astore (r := some q) (env' := [(4, .ref q)]) X dL_begin_8 (by rw [hN]; decide) rfl ?_
      refine g_ldc (v := (-1000001)) X dL_begin_10 (qW_at 324 (by decide +kernel) rfl) ?_
      exact h_iret X C hr rfl dL_begin_12 ha hb (hR9 n hn)
    · rw [if_neg e1] at hcd
      by_cases e2 : e = 2
      · subst e2
        have hcd : some (-1000002 : Int32) = some cd := hcd
        cases hcd
        refine t_catch (e := 2) (hh := [(0, 7, 8, 16), (0, 7, 13, 19), (0, 7, 18, 36)]) (pre := [(0, 7, 8, 16)]) (suf := [(0, 7, 18, 36)]) X C.2.1 rfl (by decide) (by decide) (by decide) (qW_at 153 (by decide +kernel) rfl) (qN_at 169 (by decide +kernel) rfl) (fun z hz => by
          simp only [List.mem_cons, List.mem_nil_iff, or_false] at hz
          rcases hz with rfl
          · exact ⟨by decide, 1, by decide, by decide, (qW_at 301 (by decide +kernel) rfl)⟩) (fun q n a b hn ha hb => ?_) H locs ls rest ce q9 a9 b9 z9 hn9 hl9 hls9 hq9 hv9 hc9 ha9 hb9
        refine g_astore (r := some q) (env' := [(4, .ref q)]) X dL_begin_13 (by rw [hN]; decide) rfl ?_
        refine g_ldc (v := (-1000002)) X dL_begin_15 (qW_at 297 (by decide +kernel) rfl) ?_
        exact h_iret X C hr rfl dL_begin_17 ha hb (hR9 n hn)
      · rw [if_neg e2] at hcd
        by_cases e3 : e = 3
        · subst e3
          have hcd : some (-1000003 : Int32) = some cd := hcd
          cases hcd
          refine t_catch (e := 3) (hh := [(0, 7, 8, 16), (0, 7, 13, 19), (0, 7, 18, 36)]) (pre := [(0, 7, 8, 16), (0, 7, 13, 19)]) (suf := []) X C.2.1 rfl (by decide) (by decide) (by decide) (qW_at 328 (by decide +kernel) rfl) (qN_at 342 (by decide +kernel) rfl) (fun z hz => by
            simp only [List.mem_cons, List.mem_nil_iff, or_false] at hz
            rcases hz with rfl | rfl
            · exact ⟨by decide, 1, by decide, by decide, (qW_at 301 (by decide +kernel) rfl)⟩
            · exact ⟨by decide, 2, by decide, by decide, (qW_at 153 (by decide +kernel) rfl)⟩) (fun q n a b hn ha hb => ?_) H locs ls rest ce q9 a9 b9 z9 hn9 hl9 hls9 hq9 hv9 hc9 ha9 hb9
          refine g_astore (r := some q) (env' := [(4, .ref q)]) X dL_begin_18 (by rw [hN]; decide) rfl ?_
          refine g_ldc (v := (-1000003)) X dL_begin_20 (qW_at 363 (by decide +kernel) rfl) ?_
          exact h_iret X C hr rfl dL_begin_22 ha hb (hR9 n hn)
        · rw [if_neg e3] at hcd
          exact absurd hcd (by simp)
  refine t_al 0 X dL_begin_0 rfl rfl ?_
  refine g_iload_n 1 X dL_begin_1 rfl rfl ?_
  refine g_iload_n 2 X dL_begin_2 rfl rfl ?_
  refine g_iload_n 3 X dL_begin_3 rfl rfl ?_
  refine p_callV (st := []) (q := sv) (av := [.int p0, .int p1, .int p2]) (T := T9) X hTp htr rfl h1 (M_X6_begin sv p0 p1 p2) lk_X6_begin im_X6_begin se_X6_begin (qW_at 450 (by decide +kernel) rfl) rfl (by rw [hR]; exact ⟨Nat.le_of_ble_eq_true rfl, Nat.le_of_ble_eq_true rfl⟩) (by exact Nat.le_of_ble_eq_true rfl) (by rw [hR]; exact ⟨Nat.le_of_ble_eq_true rfl, Nat.le_of_ble_eq_true rfl⟩) dL_begin_4 (by rfl) ?_
  unfold qwp
  rw [hx]
  cases r with
  | error e => exact her e rfl
  | ok v =>
    show GG k _ (.int v :: []) m1 _ _ _
    exact h_iret X C hr rfl dL_begin_7 (by rw [hR]; exact Nat.le_of_ble_eq_true rfl) (by rw [hR]; exact Nat.le_of_ble_eq_true rfl) ((hok v rfl).2)
theorem dL_ownAnswer_0 : decode cL_ownAnswer 0 = .ok (.aload_n 0, 1) := by decide +kernel
theorem dL_ownAnswer_1 : decode cL_ownAnswer 1 = .ok (.iload_n 1, 1) := by decide +kernel
theorem dL_ownAnswer_2 : decode cL_ownAnswer 2 = .ok (.iload_n 2, 1) := by decide +kernel
theorem dL_ownAnswer_3 : decode cL_ownAnswer 3 = .ok (.iload_n 3, 1) := by decide +kernel
theorem dL_ownAnswer_4 : decode cL_ownAnswer 4 = .ok (.invokevirtual 114, 3) := by decide +kernel
theorem dL_ownAnswer_7 : decode cL_ownAnswer 7 = .ok (.ireturn, 1) := by decide +kernel
theorem dL_ownAnswer_8 : decode cL_ownAnswer 8 = .ok (.astore 4, 2) := by decide +kernel
theorem dL_ownAnswer_10 : decode cL_ownAnswer 10 = .ok (.ldc 18, 2) := by decide +kernel
theorem dL_ownAnswer_12 : decode cL_ownAnswer 12 = .ok (.ireturn, 1) := by decide +kernel
theorem dL_ownAnswer_13 : decode cL_ownAnswer 13 = .ok (.astore 4, 2) := by decide +kernel
theorem dL_ownAnswer_15 : decode cL_ownAnswer 15 = .ok (.ldc 21, 2) := by decide +kernel
theorem dL_ownAnswer_17 : decode cL_ownAnswer 17 = .ok (.ireturn, 1) := by decide +kernel
theorem dL_ownAnswer_18 : decode cL_ownAnswer 18 = .ok (.astore 4, 2) := by decide +kernel
theorem dL_ownAnswer_20 : decode cL_ownAnswer 20 = .ok (.ldc 38, 2) := by decide +kernel
theorem dL_ownAnswer_22 : decode cL_ownAnswer 22 = .ok (.ireturn, 1) := by decide +kernel
theorem lkh_ownAnswer : LKH yL_ownAnswer cL_ownAnswer 5 (some .int) [(0, 7, 8, 16), (0, 7, 13, 19), (0, 7, 18, 36)] 4 := ⟨(qW_at 467 (by decide +kernel) rfl), (qW_at 28 (by decide +kernel) rfl), by decide, by decide, by decide +kernel⟩
theorem stl_ownAnswer : Cond.static yL_ownAnswer ∈ qW := (qW_at 466 (by decide +kernel) rfl)
set_option maxRecDepth 100000 in
set_option maxHeartbeats 1600000 in
theorem E0_L_ownAnswer (sv : Nat) (p0 p1 p2 : Int32) : MEH yL_ownAnswer cL_ownAnswer 5 (some .int) [(0, 7, 8, 16), (0, 7, 13, 19), (0, 7, 18, 36)] 9 145 4 24 (fun _ => [.ref sv, .int p0, .int p1, .int p2]) (fun _ mm R => PW0 sv (F_X6_ownAnswer sv p0 p1 p2) (fun v => True) mpA mm R) := by
  refine MEH_of (env0 := fun _ => [(0, .ref sv), (1, .int p0), (2, .int p1), (3, .int p2)]) (by decide) (fun _ => by exact Nat.le_of_ble_eq_true rfl) (fun _ => by rfl) (fun k mm R X C hR hN hr hname hP => ?_)
  have X : CX k cL_ownAnswer RL := X
  have htr := C.2.2.2.1
  obtain ⟨h1, r, m1, hx, hok, her⟩ := hP
  let T9 : Nat → QM → Prop := fun e m' => ∃ cd, mpA e = some cd ∧ ∀ n, qtop m' ≤ n → R (.ok (some (.int cd))) (stop m' n)
  have hTp : THp k 4 T9 := by
    intro e mm9 H locs ls rest ce q9 a9 b9 hT9 z9 hn9 hl9 hls9 hq9 hv9 hc9 ha9 hb9
    obtain ⟨cd, hcd, hR9⟩ := hT9
    unfold mpA at hcd
    by_cases e1 : e = 1
    · subst e1
      have hcd : some (-1000001 : Int32) = some cd := hcd
      cases hcd
      refine t_catch (e := 1) (hh := [(0, 7, 8, 16), (0, 7, 13, 19), (0, 7, 18, 36)]) (pre := []) (suf := [(0, 7, 13, 19), (0, 7, 18, 36)]) X C.2.1 rfl (by decide) (by decide) (by decide) (qW_at 301 (by decide +kernel) rfl) (qN_at 311 (by decide +kernel) rfl) (fun z hz => absurd hz List.not_mem_nil) (fun q n a b hn ha hb => ?_) H locs ls rest ce q9 a9 b9 z9 hn9 hl9 hls9 hq9 hv9 hc9 ha9 hb9
      refine g_astore (r := some q) (env' := [(4, .ref q)]) X dL_ownAnswer_8 (by rw [hN]; decide) rfl ?_
      refine g_ldc (v := (-1000001)) X dL_ownAnswer_10 (qW_at 324 (by decide +kernel) rfl) ?_
      exact h_iret X C hr rfl dL_ownAnswer_12 ha hb (hR9 n hn)
    · rw [if_neg e1] at hcd
      by_cases e2 : e = 2
      · subst e2
        have hcd : some (-1000002 : Int32) = some cd := hcd
        cases hcd
        refine t_catch (e := 2) (hh := [(0, 7, 8, 16), (0, 7, 13, 19), (0, 7, 18, 36)]) (pre := [(0, 7, 8, 16)]) (suf := [(0, 7, 18, 36)]) X C.2.1 rfl (by decide) (by decide) (by decide) (qW_at 153 (by decide +kernel) rfl) (qN_at 169 (by decide +kernel) rfl) (fun z hz => by
          simp only [List.mem_cons, List.mem_nil_iff, or_false] at hz
          rcases hz with rfl
          · exact ⟨by decide, 1, by decide, by decide, (qW_at 301 (by decide +kernel) rfl)⟩) (fun q n a b hn ha hb => ?_) H locs ls rest ce q9 a9 b9 z9 hn9 hl9 hls9 hq9 hv9 hc9 ha9 hb9
        refine g_astore (r := some q) (env' := [(4, .ref q)]) X dL_ownAnswer_13 (by rw [hN]; decide) rfl ?_
        refine g_ldc (v := (-1000002)) X dL_ownAnswer_15 (qW_at 297 (by decide +kernel) rfl) ?_
        exact h_iret X C hr rfl dL_ownAnswer_17 ha hb (hR9 n hn)
      · rw [if_neg e2] at hcd
        by_cases e3 : e = 3
        · subst e3
          have hcd : some (-1000003 : Int32) = some cd := hcd
          cases hcd
          refine t_catch (e := 3) (hh := [(0, 7, 8, 16), (0, 7, 13, 19), (0, 7, 18, 36)]) (pre := [(0, 7, 8, 16), (0, 7, 13, 19)]) (suf := []) X C.2.1 rfl (by decide) (by decide) (by decide) (qW_at 328 (by decide +kernel) rfl) (qN_at 342 (by decide +kernel) rfl) (fun z hz => by
            simp only [List.mem_cons, List.mem_nil_iff, or_false] at hz
            rcases hz with rfl | rfl
            · exact ⟨by decide, 1, by decide, by decide, (qW_at 301 (by decide +kernel) rfl)⟩
            · exact ⟨by decide, 2, by decide, by decide, (qW_at 153 (by decide +kernel) rfl)⟩) (fun q n a b hn ha hb => ?_) H locs ls rest ce q9 a9 b9 z9 hn9 hl9 hls9 hq9 hv9 hc9 ha9 hb9
          refine g_astore (r := some q) (env' := [(4, .ref q)]) X dL_ownAnswer_18 (by rw [hN]; decide) rfl ?_
          refine g_ldc (v := (-1000003)) X dL_ownAnswer_20 (qW_at 363 (by decide +kernel) rfl) ?_
          exact h_iret X C hr rfl dL_ownAnswer_22 ha hb (hR9 n hn)
        · rw [if_neg e3] at hcd
          exact absurd hcd (by simp)
  refine t_al 0 X dL_ownAnswer_0 rfl rfl ?_
  refine g_iload_n 1 X dL_ownAnswer_1 rfl rfl ?_
  refine g_iload_n 2 X dL_ownAnswer_2 rfl rfl ?_
  refine g_iload_n 3 X dL_ownAnswer_3 rfl rfl ?_
  refine p_callV (st := []) (q := sv) (av := [.int p0, .int p1, .int p2]) (T := T9) X hTp htr rfl h1 (M_X6_ownAnswer sv p0 p1 p2) lk_X6_ownAnswer im_X6_ownAnswer se_X6_ownAnswer (qW_at 468 (by decide +kernel) rfl) rfl (by rw [hR]; exact ⟨Nat.le_of_ble_eq_true rfl, Nat.le_of_ble_eq_true rfl⟩) (by exact Nat.le_of_ble_eq_true rfl) (by rw [hR]; exact ⟨Nat.le_of_ble_eq_true rfl, Nat.le_of_ble_eq_true rfl⟩) dL_ownAnswer_4 (by rfl) ?_
  unfold qwp
  rw [hx]
  cases r with
  | error e => exact her e rfl
  | ok v =>
    show GG k _ (.int v :: []) m1 _ _ _
    exact h_iret X C hr rfl dL_ownAnswer_7 (by rw [hR]; exact Nat.le_of_ble_eq_true rfl) (by rw [hR]; exact Nat.le_of_ble_eq_true rfl) ((hok v rfl).2)
theorem dL_isAsked_0 : decode cL_isAsked 0 = .ok (.aload_n 0, 1) := by decide +kernel
theorem dL_isAsked_1 : decode cL_isAsked 1 = .ok (.iload_n 1, 1) := by decide +kernel
theorem dL_isAsked_2 : decode cL_isAsked 2 = .ok (.iload_n 2, 1) := by decide +kernel
theorem dL_isAsked_3 : decode cL_isAsked 3 = .ok (.invokevirtual 117, 3) := by decide +kernel
theorem dL_isAsked_6 : decode cL_isAsked 6 = .ok (.ifCond .eq 7, 3) := by decide +kernel
theorem dL_isAsked_9 : decode cL_isAsked 9 = .ok (.iconst 1, 1) := by decide +kernel
theorem dL_isAsked_10 : decode cL_isAsked 10 = .ok (.goto 4, 3) := by decide +kernel
theorem dL_isAsked_13 : decode cL_isAsked 13 = .ok (.iconst 0, 1) := by decide +kernel
theorem dL_isAsked_14 : decode cL_isAsked 14 = .ok (.ireturn, 1) := by decide +kernel
theorem dL_isAsked_15 : decode cL_isAsked 15 = .ok (.astore_n 3, 1) := by decide +kernel
theorem dL_isAsked_16 : decode cL_isAsked 16 = .ok (.ldc 18, 2) := by decide +kernel
theorem dL_isAsked_18 : decode cL_isAsked 18 = .ok (.ireturn, 1) := by decide +kernel
theorem lkh_isAsked : LKH yL_isAsked cL_isAsked 4 (some .int) [(0, 14, 15, 16)] 3 := ⟨(qW_at 492 (by decide +kernel) rfl), (qW_at 28 (by decide +kernel) rfl), by decide, by decide, by decide +kernel⟩
theorem stl_isAsked : Cond.static yL_isAsked ∈ qW := (qW_at 491 (by decide +kernel) rfl)
set_option maxRecDepth 100000 in
set_option maxHeartbeats 1600000 in
theorem E0_L_isAsked (sv : Nat) (p0 p1 : Int32) : MEH yL_isAsked cL_isAsked 4 (some .int) [(0, 14, 15, 16)] 8 125 2 12 (fun _ => [.ref sv, .int p0, .int p1]) (fun _ mm R => PW0 sv (F_X6_isAsked sv p0 p1) (fun v => (v = 0 ∨ v = 1)) mpD mm R) := by
  refine MEH_of (env0 := fun _ => [(0, .ref sv), (1, .int p0), (2, .int p1)]) (by decide) (fun _ => by exact Nat.le_of_ble_eq_true rfl) (fun _ => by rfl) (fun k mm R X C hR hN hr hname hP => ?_)
  have X : CX k cL_isAsked RL := X
  have htr := C.2.2.2.1
  obtain ⟨h1, r, m1, hx, hok, her⟩ := hP
  let T9 : Nat → QM → Prop := fun e m' => ∃ cd, mpD e = some cd ∧ ∀ n, qtop m' ≤ n → R (.ok (some (.int cd))) (stop m' n)
  have hTp : THp k 3 T9 := by
    intro e mm9 H locs ls rest ce q9 a9 b9 hT9 z9 hn9 hl9 hls9 hq9 hv9 hc9 ha9 hb9
    obtain ⟨cd, hcd, hR9⟩ := hT9
    unfold mpD at hcd
    by_cases e1 : e = 1
    · subst e1
      have hcd : some (-1000001 : Int32) = some cd := hcd
      cases hcd
      refine t_catch (e := 1) (hh := [(0, 14, 15, 16)]) (pre := []) (suf := []) X C.2.1 rfl (by decide) (by decide) (by decide) (qW_at 301 (by decide +kernel) rfl) (qN_at 311 (by decide +kernel) rfl) (fun z hz => absurd hz List.not_mem_nil) (fun q n a b hn ha hb => ?_) H locs ls rest ce q9 a9 b9 z9 hn9 hl9 hls9 hq9 hv9 hc9 ha9 hb9
      refine t_as (env' := [(3, .ref q)]) X dL_isAsked_15 rfl (by rw [hN]; decide) rfl ?_
      refine g_ldc (v := (-1000001)) X dL_isAsked_16 (qW_at 324 (by decide +kernel) rfl) ?_
      exact h_iret X C hr rfl dL_isAsked_18 ha hb (hR9 n hn)
    · rw [if_neg e1] at hcd
      exact absurd hcd (by simp)
  refine t_al 0 X dL_isAsked_0 rfl rfl ?_
  refine g_iload_n 1 X dL_isAsked_1 rfl rfl ?_
  refine g_iload_n 2 X dL_isAsked_2 rfl rfl ?_
  refine p_callV (st := []) (q := sv) (av := [.int p0, .int p1]) (T := T9) X hTp htr rfl h1 (M_X6_isAsked sv p0 p1) lk_X6_isAsked im_X6_isAsked se_X6_isAsked (qW_at 493 (by decide +kernel) rfl) rfl (by rw [hR]; exact ⟨Nat.le_of_ble_eq_true rfl, Nat.le_of_ble_eq_true rfl⟩) (by exact Nat.le_of_ble_eq_true rfl) (by rw [hR]; exact ⟨Nat.le_of_ble_eq_true rfl, Nat.le_of_ble_eq_true rfl⟩) dL_isAsked_3 (by rfl) ?_
  unfold qwp
  rw [hx]
  cases r with
  | error e => exact her e rfl
  | ok v =>
    show GG k _ (.int v :: []) m1 _ _ _
    rcases (hok v rfl).1 with rfl | rfl
    · refine t_eqT (tgt := 13) X dL_isAsked_6 (by decide) rfl ?_
      refine g_iconst (v := 0) X dL_isAsked_13 rfl ?_
      exact h_iret X C hr rfl dL_isAsked_14 (by rw [hR]; exact Nat.le_of_ble_eq_true rfl) (by rw [hR]; exact Nat.le_of_ble_eq_true rfl) ((hok _ rfl).2)
    · refine t_eqF 13 X dL_isAsked_6 (by decide) (by decide) ?_
      refine g_iconst (v := 1) X dL_isAsked_9 rfl ?_
      refine g_goto (tgt := 14) X dL_isAsked_10 (by decide) ?_
      exact h_iret X C hr rfl dL_isAsked_14 (by rw [hR]; exact Nat.le_of_ble_eq_true rfl) (by rw [hR]; exact Nat.le_of_ble_eq_true rfl) ((hok _ rfl).2)
theorem dL_answerOf_0 : decode cL_answerOf 0 = .ok (.aload_n 0, 1) := by decide +kernel
theorem dL_answerOf_1 : decode cL_answerOf 1 = .ok (.iload_n 1, 1) := by decide +kernel
theorem dL_answerOf_2 : decode cL_answerOf 2 = .ok (.iload_n 2, 1) := by decide +kernel
theorem dL_answerOf_3 : decode cL_answerOf 3 = .ok (.iload_n 3, 1) := by decide +kernel
theorem dL_answerOf_4 : decode cL_answerOf 4 = .ok (.invokevirtual 120, 3) := by decide +kernel
theorem dL_answerOf_7 : decode cL_answerOf 7 = .ok (.ireturn, 1) := by decide +kernel
theorem dL_answerOf_8 : decode cL_answerOf 8 = .ok (.astore 4, 2) := by decide +kernel
theorem dL_answerOf_10 : decode cL_answerOf 10 = .ok (.ldc 18, 2) := by decide +kernel
theorem dL_answerOf_12 : decode cL_answerOf 12 = .ok (.ireturn, 1) := by decide +kernel
theorem dL_answerOf_13 : decode cL_answerOf 13 = .ok (.astore 4, 2) := by decide +kernel
theorem dL_answerOf_15 : decode cL_answerOf 15 = .ok (.ldc 21, 2) := by decide +kernel
theorem dL_answerOf_17 : decode cL_answerOf 17 = .ok (.ireturn, 1) := by decide +kernel
theorem dL_answerOf_18 : decode cL_answerOf 18 = .ok (.astore 4, 2) := by decide +kernel
theorem dL_answerOf_20 : decode cL_answerOf 20 = .ok (.ldc 38, 2) := by decide +kernel
theorem dL_answerOf_22 : decode cL_answerOf 22 = .ok (.ireturn, 1) := by decide +kernel
theorem lkh_answerOf : LKH yL_answerOf cL_answerOf 5 (some .int) [(0, 7, 8, 16), (0, 7, 13, 19), (0, 7, 18, 36)] 4 := ⟨(qW_at 511 (by decide +kernel) rfl), (qW_at 28 (by decide +kernel) rfl), by decide, by decide, by decide +kernel⟩
theorem stl_answerOf : Cond.static yL_answerOf ∈ qW := (qW_at 510 (by decide +kernel) rfl)
set_option maxRecDepth 100000 in
set_option maxHeartbeats 1600000 in
theorem E0_L_answerOf (sv : Nat) (p0 p1 p2 : Int32) : MEH yL_answerOf cL_answerOf 5 (some .int) [(0, 7, 8, 16), (0, 7, 13, 19), (0, 7, 18, 36)] 9 145 4 24 (fun _ => [.ref sv, .int p0, .int p1, .int p2]) (fun _ mm R => PW0 sv (F_X6_answerOf sv p0 p1 p2) (fun v => True) mpA mm R) := by
  refine MEH_of (env0 := fun _ => [(0, .ref sv), (1, .int p0), (2, .int p1), (3, .int p2)]) (by decide) (fun _ => by exact Nat.le_of_ble_eq_true rfl) (fun _ => by rfl) (fun k mm R X C hR hN hr hname hP => ?_)
  have X : CX k cL_answerOf RL := X
  have htr := C.2.2.2.1
  obtain ⟨h1, r, m1, hx, hok, her⟩ := hP
  let T9 : Nat → QM → Prop := fun e m' => ∃ cd, mpA e = some cd ∧ ∀ n, qtop m' ≤ n → R (.ok (some (.int cd))) (stop m' n)
  have hTp : THp k 4 T9 := by
    intro e mm9 H locs ls rest ce q9 a9 b9 hT9 z9 hn9 hl9 hls9 hq9 hv9 hc9 ha9 hb9
    obtain ⟨cd, hcd, hR9⟩ := hT9
    unfold mpA at hcd
    by_cases e1 : e = 1
    · subst e1
      have hcd : some (-1000001 : Int32) = some cd := hcd
      cases hcd
      refine t_catch (e := 1) (hh := [(0, 7, 8, 16), (0, 7, 13, 19), (0, 7, 18, 36)]) (pre := []) (suf := [(0, 7, 13, 19), (0, 7, 18, 36)]) X C.2.1 rfl (by decide) (by decide) (by decide) (qW_at 301 (by decide +kernel) rfl) (qN_at 311 (by decide +kernel) rfl) (fun z hz => absurd hz List.not_mem_nil) (fun q n a b hn ha hb => ?_) H locs ls rest ce q9 a9 b9 z9 hn9 hl9 hls9 hq9 hv9 hc9 ha9 hb9
      refine g_astore (r := some q) (env' := [(4, .ref q)]) X dL_answerOf_8 (by rw [hN]; decide) rfl ?_
      refine g_ldc (v := (-1000001)) X dL_answerOf_10 (qW_at 324 (by decide +kernel) rfl) ?_
      exact h_iret X C hr rfl dL_answerOf_12 ha hb (hR9 n hn)
    · rw [if_neg e1] at hcd
      by_cases e2 : e = 2
      · subst e2
        have hcd : some (-1000002 : Int32) = some cd := hcd
        cases hcd
        refine t_catch (e := 2) (hh := [(0, 7, 8, 16), (0, 7, 13, 19), (0, 7, 18, 36)]) (pre := [(0, 7, 8, 16)]) (suf := [(0, 7, 18, 36)]) X C.2.1 rfl (by decide) (by decide) (by decide) (qW_at 153 (by decide +kernel) rfl) (qN_at 169 (by decide +kernel) rfl) (fun z hz => by
          simp only [List.mem_cons, List.mem_nil_iff, or_false] at hz
          rcases hz with rfl
          · exact ⟨by decide, 1, by decide, by decide, (qW_at 301 (by decide +kernel) rfl)⟩) (fun q n a b hn ha hb => ?_) H locs ls rest ce q9 a9 b9 z9 hn9 hl9 hls9 hq9 hv9 hc9 ha9 hb9
        refine g_astore (r := some q) (env' := [(4, .ref q)]) X dL_answerOf_13 (by rw [hN]; decide) rfl ?_
        refine g_ldc (v := (-1000002)) X dL_answerOf_15 (qW_at 297 (by decide +kernel) rfl) ?_
        exact h_iret X C hr rfl dL_answerOf_17 ha hb (hR9 n hn)
      · rw [if_neg e2] at hcd
        by_cases e3 : e = 3
        · subst e3
          have hcd : some (-1000003 : Int32) = some cd := hcd
          cases hcd
          refine t_catch (e := 3) (hh := [(0, 7, 8, 16), (0, 7, 13, 19), (0, 7, 18, 36)]) (pre := [(0, 7, 8, 16), (0, 7, 13, 19)]) (suf := []) X C.2.1 rfl (by decide) (by decide) (by decide) (qW_at 328 (by decide +kernel) rfl) (qN_at 342 (by decide +kernel) rfl) (fun z hz => by
            simp only [List.mem_cons, List.mem_nil_iff, or_false] at hz
            rcases hz with rfl | rfl
            · exact ⟨by decide, 1, by decide, by decide, (qW_at 301 (by decide +kernel) rfl)⟩
            · exact ⟨by decide, 2, by decide, by decide, (qW_at 153 (by decide +kernel) rfl)⟩) (fun q n a b hn ha hb => ?_) H locs ls rest ce q9 a9 b9 z9 hn9 hl9 hls9 hq9 hv9 hc9 ha9 hb9
          refine g_astore (r := some q) (env' := [(4, .ref q)]) X dL_answerOf_18 (by rw [hN]; decide) rfl ?_
          refine g_ldc (v := (-1000003)) X dL_answerOf_20 (qW_at 363 (by decide +kernel) rfl) ?_
          exact h_iret X C hr rfl dL_answerOf_22 ha hb (hR9 n hn)
        · rw [if_neg e3] at hcd
          exact absurd hcd (by simp)
  refine t_al 0 X dL_answerOf_0 rfl rfl ?_
  refine g_iload_n 1 X dL_answerOf_1 rfl rfl ?_
  refine g_iload_n 2 X dL_answerOf_2 rfl rfl ?_
  refine g_iload_n 3 X dL_answerOf_3 rfl rfl ?_
  refine p_callV (st := []) (q := sv) (av := [.int p0, .int p1, .int p2]) (T := T9) X hTp htr rfl h1 (M_X6_answerOf sv p0 p1 p2) lk_X6_answerOf im_X6_answerOf se_X6_answerOf (qW_at 512 (by decide +kernel) rfl) rfl (by rw [hR]; exact ⟨Nat.le_of_ble_eq_true rfl, Nat.le_of_ble_eq_true rfl⟩) (by exact Nat.le_of_ble_eq_true rfl) (by rw [hR]; exact ⟨Nat.le_of_ble_eq_true rfl, Nat.le_of_ble_eq_true rfl⟩) dL_answerOf_4 (by rfl) ?_
  unfold qwp
  rw [hx]
  cases r with
  | error e => exact her e rfl
  | ok v =>
    show GG k _ (.int v :: []) m1 _ _ _
    exact h_iret X C hr rfl dL_answerOf_7 (by rw [hR]; exact Nat.le_of_ble_eq_true rfl) (by rw [hR]; exact Nat.le_of_ble_eq_true rfl) ((hok v rfl).2)
theorem dL_answerByLog_0 : decode cL_answerByLog 0 = .ok (.aload_n 0, 1) := by decide +kernel
theorem dL_answerByLog_1 : decode cL_answerByLog 1 = .ok (.iload_n 1, 1) := by decide +kernel
theorem dL_answerByLog_2 : decode cL_answerByLog 2 = .ok (.iload_n 2, 1) := by decide +kernel
theorem dL_answerByLog_3 : decode cL_answerByLog 3 = .ok (.iload_n 3, 1) := by decide +kernel
theorem dL_answerByLog_4 : decode cL_answerByLog 4 = .ok (.invokevirtual 123, 3) := by decide +kernel
theorem dL_answerByLog_7 : decode cL_answerByLog 7 = .ok (.ireturn, 1) := by decide +kernel
theorem dL_answerByLog_8 : decode cL_answerByLog 8 = .ok (.astore 4, 2) := by decide +kernel
theorem dL_answerByLog_10 : decode cL_answerByLog 10 = .ok (.ldc 18, 2) := by decide +kernel
theorem dL_answerByLog_12 : decode cL_answerByLog 12 = .ok (.ireturn, 1) := by decide +kernel
theorem dL_answerByLog_13 : decode cL_answerByLog 13 = .ok (.astore 4, 2) := by decide +kernel
theorem dL_answerByLog_15 : decode cL_answerByLog 15 = .ok (.ldc 21, 2) := by decide +kernel
theorem dL_answerByLog_17 : decode cL_answerByLog 17 = .ok (.ireturn, 1) := by decide +kernel
theorem dL_answerByLog_18 : decode cL_answerByLog 18 = .ok (.astore 4, 2) := by decide +kernel
theorem dL_answerByLog_20 : decode cL_answerByLog 20 = .ok (.ldc 38, 2) := by decide +kernel
theorem dL_answerByLog_22 : decode cL_answerByLog 22 = .ok (.ireturn, 1) := by decide +kernel
theorem lkh_answerByLog : LKH yL_answerByLog cL_answerByLog 5 (some .int) [(0, 7, 8, 16), (0, 7, 13, 19), (0, 7, 18, 36)] 4 := ⟨(qW_at 522 (by decide +kernel) rfl), (qW_at 28 (by decide +kernel) rfl), by decide, by decide, by decide +kernel⟩
theorem stl_answerByLog : Cond.static yL_answerByLog ∈ qW := (qW_at 521 (by decide +kernel) rfl)
set_option maxRecDepth 100000 in
set_option maxHeartbeats 1600000 in
theorem E0_L_answerByLog (sv : Nat) (p0 p1 p2 : Int32) : MEH yL_answerByLog cL_answerByLog 5 (some .int) [(0, 7, 8, 16), (0, 7, 13, 19), (0, 7, 18, 36)] 9 147 4 24 (fun _ => [.ref sv, .int p0, .int p1, .int p2]) (fun _ mm R => PW0 sv (F_X6_answerByLog sv p0 p1 p2) (fun v => True) mpA mm R) := by
  refine MEH_of (env0 := fun _ => [(0, .ref sv), (1, .int p0), (2, .int p1), (3, .int p2)]) (by decide) (fun _ => by exact Nat.le_of_ble_eq_true rfl) (fun _ => by rfl) (fun k mm R X C hR hN hr hname hP => ?_)
  have X : CX k cL_answerByLog RL := X
  have htr := C.2.2.2.1
  obtain ⟨h1, r, m1, hx, hok, her⟩ := hP
  let T9 : Nat → QM → Prop := fun e m' => ∃ cd, mpA e = some cd ∧ ∀ n, qtop m' ≤ n → R (.ok (some (.int cd))) (stop m' n)
  have hTp : THp k 4 T9 := by
    intro e mm9 H locs ls rest ce q9 a9 b9 hT9 z9 hn9 hl9 hls9 hq9 hv9 hc9 ha9 hb9
    obtain ⟨cd, hcd, hR9⟩ := hT9
    unfold mpA at hcd
    by_cases e1 : e = 1
    · subst e1
      have hcd : some (-1000001 : Int32) = some cd := hcd
      cases hcd
      refine t_catch (e := 1) (hh := [(0, 7, 8, 16), (0, 7, 13, 19), (0, 7, 18, 36)]) (pre := []) (suf := [(0, 7, 13, 19), (0, 7, 18, 36)]) X C.2.1 rfl (by decide) (by decide) (by decide) (qW_at 301 (by decide +kernel) rfl) (qN_at 311 (by decide +kernel) rfl) (fun z hz => absurd hz List.not_mem_nil) (fun q n a b hn ha hb => ?_) H locs ls rest ce q9 a9 b9 z9 hn9 hl9 hls9 hq9 hv9 hc9 ha9 hb9
      refine g_astore (r := some q) (env' := [(4, .ref q)]) X dL_answerByLog_8 (by rw [hN]; decide) rfl ?_
      refine g_ldc (v := (-1000001)) X dL_answerByLog_10 (qW_at 324 (by decide +kernel) rfl) ?_
      exact h_iret X C hr rfl dL_answerByLog_12 ha hb (hR9 n hn)
    · rw [if_neg e1] at hcd
      by_cases e2 : e = 2
      · subst e2
        have hcd : some (-1000002 : Int32) = some cd := hcd
        cases hcd
        refine t_catch (e := 2) (hh := [(0, 7, 8, 16), (0, 7, 13, 19), (0, 7, 18, 36)]) (pre := [(0, 7, 8, 16)]) (suf := [(0, 7, 18, 36)]) X C.2.1 rfl (by decide) (by decide) (by decide) (qW_at 153 (by decide +kernel) rfl) (qN_at 169 (by decide +kernel) rfl) (fun z hz => by
          simp only [List.mem_cons, List.mem_nil_iff, or_false] at hz
          rcases hz with rfl
          · exact ⟨by decide, 1, by decide, by decide, (qW_at 301 (by decide +kernel) rfl)⟩) (fun q n a b hn ha hb => ?_) H locs ls rest ce q9 a9 b9 z9 hn9 hl9 hls9 hq9 hv9 hc9 ha9 hb9
        refine g_astore (r := some q) (env' := [(4, .ref q)]) X dL_answerByLog_13 (by rw [hN]; decide) rfl ?_
        refine g_ldc (v := (-1000002)) X dL_answerByLog_15 (qW_at 297 (by decide +kernel) rfl) ?_
        exact h_iret X C hr rfl dL_answerByLog_17 ha hb (hR9 n hn)
      · rw [if_neg e2] at hcd
        by_cases e3 : e = 3
        · subst e3
          have hcd : some (-1000003 : Int32) = some cd := hcd
          cases hcd
          refine t_catch (e := 3) (hh := [(0, 7, 8, 16), (0, 7, 13, 19), (0, 7, 18, 36)]) (pre := [(0, 7, 8, 16), (0, 7, 13, 19)]) (suf := []) X C.2.1 rfl (by decide) (by decide) (by decide) (qW_at 328 (by decide +kernel) rfl) (qN_at 342 (by decide +kernel) rfl) (fun z hz => by
            simp only [List.mem_cons, List.mem_nil_iff, or_false] at hz
            rcases hz with rfl | rfl
            · exact ⟨by decide, 1, by decide, by decide, (qW_at 301 (by decide +kernel) rfl)⟩
            · exact ⟨by decide, 2, by decide, by decide, (qW_at 153 (by decide +kernel) rfl)⟩) (fun q n a b hn ha hb => ?_) H locs ls rest ce q9 a9 b9 z9 hn9 hl9 hls9 hq9 hv9 hc9 ha9 hb9
          refine g_astore (r := some q) (env' := [(4, .ref q)]) X dL_answerByLog_18 (by rw [hN]; decide) rfl ?_
          refine g_ldc (v := (-1000003)) X dL_answerByLog_20 (qW_at 363 (by decide +kernel) rfl) ?_
          exact h_iret X C hr rfl dL_answerByLog_22 ha hb (hR9 n hn)
        · rw [if_neg e3] at hcd
          exact absurd hcd (by simp)
  refine t_al 0 X dL_answerByLog_0 rfl rfl ?_
  refine g_iload_n 1 X dL_answerByLog_1 rfl rfl ?_
  refine g_iload_n 2 X dL_answerByLog_2 rfl rfl ?_
  refine g_iload_n 3 X dL_answerByLog_3 rfl rfl ?_
  refine p_callV (st := []) (q := sv) (av := [.int p0, .int p1, .int p2]) (T := T9) X hTp htr rfl h1 (M_X6_answerByLog sv p0 p1 p2) lk_X6_answerByLog im_X6_answerByLog se_X6_answerByLog (qW_at 523 (by decide +kernel) rfl) rfl (by rw [hR]; exact ⟨Nat.le_of_ble_eq_true rfl, Nat.le_of_ble_eq_true rfl⟩) (by exact Nat.le_of_ble_eq_true rfl) (by rw [hR]; exact ⟨Nat.le_of_ble_eq_true rfl, Nat.le_of_ble_eq_true rfl⟩) dL_answerByLog_4 (by rfl) ?_
  unfold qwp
  rw [hx]
  cases r with
  | error e => exact her e rfl
  | ok v =>
    show GG k _ (.int v :: []) m1 _ _ _
    exact h_iret X C hr rfl dL_answerByLog_7 (by rw [hR]; exact Nat.le_of_ble_eq_true rfl) (by rw [hR]; exact Nat.le_of_ble_eq_true rfl) ((hok v rfl).2)
theorem dL_agrees_0 : decode cL_agrees 0 = .ok (.aload_n 0, 1) := by decide +kernel
theorem dL_agrees_1 : decode cL_agrees 1 = .ok (.iload_n 1, 1) := by decide +kernel
theorem dL_agrees_2 : decode cL_agrees 2 = .ok (.invokevirtual 126, 3) := by decide +kernel
theorem dL_agrees_5 : decode cL_agrees 5 = .ok (.ifCond .eq 7, 3) := by decide +kernel
theorem dL_agrees_8 : decode cL_agrees 8 = .ok (.iconst 1, 1) := by decide +kernel
theorem dL_agrees_9 : decode cL_agrees 9 = .ok (.goto 4, 3) := by decide +kernel
theorem dL_agrees_12 : decode cL_agrees 12 = .ok (.iconst 0, 1) := by decide +kernel
theorem dL_agrees_13 : decode cL_agrees 13 = .ok (.ireturn, 1) := by decide +kernel
theorem dL_agrees_14 : decode cL_agrees 14 = .ok (.astore_n 2, 1) := by decide +kernel
theorem dL_agrees_15 : decode cL_agrees 15 = .ok (.ldc 18, 2) := by decide +kernel
theorem dL_agrees_17 : decode cL_agrees 17 = .ok (.ireturn, 1) := by decide +kernel
theorem lkh_agrees : LKH yL_agrees cL_agrees 3 (some .int) [(0, 13, 14, 16)] 2 := ⟨(qW_at 579 (by decide +kernel) rfl), (qW_at 28 (by decide +kernel) rfl), by decide, by decide, by decide +kernel⟩
theorem stl_agrees : Cond.static yL_agrees ∈ qW := (qW_at 578 (by decide +kernel) rfl)
set_option maxRecDepth 100000 in
set_option maxHeartbeats 1600000 in
theorem E0_L_agrees (sv : Nat) (p0 : Int32) : MEH yL_agrees cL_agrees 3 (some .int) [(0, 13, 14, 16)] 8 138 1 6 (fun _ => [.ref sv, .int p0]) (fun _ mm R => PW0 sv (F_X6_agrees sv p0) (fun v => (v = 0 ∨ v = 1)) mpD mm R) := by
  refine MEH_of (env0 := fun _ => [(0, .ref sv), (1, .int p0)]) (by decide) (fun _ => by exact Nat.le_of_ble_eq_true rfl) (fun _ => by rfl) (fun k mm R X C hR hN hr hname hP => ?_)
  have X : CX k cL_agrees RL := X
  have htr := C.2.2.2.1
  obtain ⟨h1, r, m1, hx, hok, her⟩ := hP
  let T9 : Nat → QM → Prop := fun e m' => ∃ cd, mpD e = some cd ∧ ∀ n, qtop m' ≤ n → R (.ok (some (.int cd))) (stop m' n)
  have hTp : THp k 2 T9 := by
    intro e mm9 H locs ls rest ce q9 a9 b9 hT9 z9 hn9 hl9 hls9 hq9 hv9 hc9 ha9 hb9
    obtain ⟨cd, hcd, hR9⟩ := hT9
    unfold mpD at hcd
    by_cases e1 : e = 1
    · subst e1
      have hcd : some (-1000001 : Int32) = some cd := hcd
      cases hcd
      refine t_catch (e := 1) (hh := [(0, 13, 14, 16)]) (pre := []) (suf := []) X C.2.1 rfl (by decide) (by decide) (by decide) (qW_at 301 (by decide +kernel) rfl) (qN_at 311 (by decide +kernel) rfl) (fun z hz => absurd hz List.not_mem_nil) (fun q n a b hn ha hb => ?_) H locs ls rest ce q9 a9 b9 z9 hn9 hl9 hls9 hq9 hv9 hc9 ha9 hb9
      refine t_as (env' := [(2, .ref q)]) X dL_agrees_14 rfl (by rw [hN]; decide) rfl ?_
      refine g_ldc (v := (-1000001)) X dL_agrees_15 (qW_at 324 (by decide +kernel) rfl) ?_
      exact h_iret X C hr rfl dL_agrees_17 ha hb (hR9 n hn)
    · rw [if_neg e1] at hcd
      exact absurd hcd (by simp)
  refine t_al 0 X dL_agrees_0 rfl rfl ?_
  refine g_iload_n 1 X dL_agrees_1 rfl rfl ?_
  refine p_callV (st := []) (q := sv) (av := [.int p0]) (T := T9) X hTp htr rfl h1 (M_X6_agrees sv p0) lk_X6_agrees im_X6_agrees se_X6_agrees (qW_at 580 (by decide +kernel) rfl) rfl (by rw [hR]; exact ⟨Nat.le_of_ble_eq_true rfl, Nat.le_of_ble_eq_true rfl⟩) (by exact Nat.le_of_ble_eq_true rfl) (by rw [hR]; exact ⟨Nat.le_of_ble_eq_true rfl, Nat.le_of_ble_eq_true rfl⟩) dL_agrees_2 (by rfl) ?_
  unfold qwp
  rw [hx]
  cases r with
  | error e => exact her e rfl
  | ok v =>
    show GG k _ (.int v :: []) m1 _ _ _
    rcases (hok v rfl).1 with rfl | rfl
    · refine t_eqT (tgt := 12) X dL_agrees_5 (by decide) rfl ?_
      refine g_iconst (v := 0) X dL_agrees_12 rfl ?_
      exact h_iret X C hr rfl dL_agrees_13 (by rw [hR]; exact Nat.le_of_ble_eq_true rfl) (by rw [hR]; exact Nat.le_of_ble_eq_true rfl) ((hok _ rfl).2)
    · refine t_eqF 12 X dL_agrees_5 (by decide) (by decide) ?_
      refine g_iconst (v := 1) X dL_agrees_8 rfl ?_
      refine g_goto (tgt := 13) X dL_agrees_9 (by decide) ?_
      exact h_iret X C hr rfl dL_agrees_13 (by rw [hR]; exact Nat.le_of_ble_eq_true rfl) (by rw [hR]; exact Nat.le_of_ble_eq_true rfl) ((hok _ rfl).2)
theorem dL_proposals_0 : decode cL_proposals 0 = .ok (.aload_n 0, 1) := by decide +kernel
theorem dL_proposals_1 : decode cL_proposals 1 = .ok (.iload_n 1, 1) := by decide +kernel
theorem dL_proposals_2 : decode cL_proposals 2 = .ok (.invokevirtual 129, 3) := by decide +kernel
theorem dL_proposals_5 : decode cL_proposals 5 = .ok (.ireturn, 1) := by decide +kernel
theorem dL_proposals_6 : decode cL_proposals 6 = .ok (.astore_n 2, 1) := by decide +kernel
theorem dL_proposals_7 : decode cL_proposals 7 = .ok (.ldc 18, 2) := by decide +kernel
theorem dL_proposals_9 : decode cL_proposals 9 = .ok (.ireturn, 1) := by decide +kernel
theorem lkh_proposals : LKH yL_proposals cL_proposals 3 (some .int) [(0, 5, 6, 16)] 2 := ⟨(qW_at 540 (by decide +kernel) rfl), (qW_at 28 (by decide +kernel) rfl), by decide, by decide, by decide +kernel⟩
theorem stl_proposals : Cond.static yL_proposals ∈ qW := (qW_at 539 (by decide +kernel) rfl)
set_option maxRecDepth 100000 in
set_option maxHeartbeats 1600000 in
theorem E0_L_proposals (sv : Nat) (p0 : Int32) : MEH yL_proposals cL_proposals 3 (some .int) [(0, 5, 6, 16)] 8 123 1 6 (fun _ => [.ref sv, .int p0]) (fun _ mm R => PW0 sv (F_X6_proposals sv p0) (fun v => True) mpD mm R) := by
  refine MEH_of (env0 := fun _ => [(0, .ref sv), (1, .int p0)]) (by decide) (fun _ => by exact Nat.le_of_ble_eq_true rfl) (fun _ => by rfl) (fun k mm R X C hR hN hr hname hP => ?_)
  have X : CX k cL_proposals RL := X
  have htr := C.2.2.2.1
  obtain ⟨h1, r, m1, hx, hok, her⟩ := hP
  let T9 : Nat → QM → Prop := fun e m' => ∃ cd, mpD e = some cd ∧ ∀ n, qtop m' ≤ n → R (.ok (some (.int cd))) (stop m' n)
  have hTp : THp k 2 T9 := by
    intro e mm9 H locs ls rest ce q9 a9 b9 hT9 z9 hn9 hl9 hls9 hq9 hv9 hc9 ha9 hb9
    obtain ⟨cd, hcd, hR9⟩ := hT9
    unfold mpD at hcd
    by_cases e1 : e = 1
    · subst e1
      have hcd : some (-1000001 : Int32) = some cd := hcd
      cases hcd
      refine t_catch (e := 1) (hh := [(0, 5, 6, 16)]) (pre := []) (suf := []) X C.2.1 rfl (by decide) (by decide) (by decide) (qW_at 301 (by decide +kernel) rfl) (qN_at 311 (by decide +kernel) rfl) (fun z hz => absurd hz List.not_mem_nil) (fun q n a b hn ha hb => ?_) H locs ls rest ce q9 a9 b9 z9 hn9 hl9 hls9 hq9 hv9 hc9 ha9 hb9
      refine t_as (env' := [(2, .ref q)]) X dL_proposals_6 rfl (by rw [hN]; decide) rfl ?_
      refine g_ldc (v := (-1000001)) X dL_proposals_7 (qW_at 324 (by decide +kernel) rfl) ?_
      exact h_iret X C hr rfl dL_proposals_9 ha hb (hR9 n hn)
    · rw [if_neg e1] at hcd
      exact absurd hcd (by simp)
  refine t_al 0 X dL_proposals_0 rfl rfl ?_
  refine g_iload_n 1 X dL_proposals_1 rfl rfl ?_
  refine p_callV (st := []) (q := sv) (av := [.int p0]) (T := T9) X hTp htr rfl h1 (M_X6_proposals sv p0) lk_X6_proposals im_X6_proposals se_X6_proposals (qW_at 541 (by decide +kernel) rfl) rfl (by rw [hR]; exact ⟨Nat.le_of_ble_eq_true rfl, Nat.le_of_ble_eq_true rfl⟩) (by exact Nat.le_of_ble_eq_true rfl) (by rw [hR]; exact ⟨Nat.le_of_ble_eq_true rfl, Nat.le_of_ble_eq_true rfl⟩) dL_proposals_2 (by rfl) ?_
  unfold qwp
  rw [hx]
  cases r with
  | error e => exact her e rfl
  | ok v =>
    show GG k _ (.int v :: []) m1 _ _ _
    exact h_iret X C hr rfl dL_proposals_5 (by rw [hR]; exact Nat.le_of_ble_eq_true rfl) (by rw [hR]; exact Nat.le_of_ble_eq_true rfl) ((hok v rfl).2)
theorem dL_proposalAt_0 : decode cL_proposalAt 0 = .ok (.aload_n 0, 1) := by decide +kernel
theorem dL_proposalAt_1 : decode cL_proposalAt 1 = .ok (.iload_n 1, 1) := by decide +kernel
theorem dL_proposalAt_2 : decode cL_proposalAt 2 = .ok (.iload_n 2, 1) := by decide +kernel
theorem dL_proposalAt_3 : decode cL_proposalAt 3 = .ok (.invokevirtual 132, 3) := by decide +kernel
theorem dL_proposalAt_6 : decode cL_proposalAt 6 = .ok (.ireturn, 1) := by decide +kernel
theorem dL_proposalAt_7 : decode cL_proposalAt 7 = .ok (.astore_n 3, 1) := by decide +kernel
theorem dL_proposalAt_8 : decode cL_proposalAt 8 = .ok (.ldc 18, 2) := by decide +kernel
theorem dL_proposalAt_10 : decode cL_proposalAt 10 = .ok (.ireturn, 1) := by decide +kernel
theorem lkh_proposalAt : LKH yL_proposalAt cL_proposalAt 4 (some .int) [(0, 6, 7, 16)] 3 := ⟨(qW_at 554 (by decide +kernel) rfl), (qW_at 28 (by decide +kernel) rfl), by decide, by decide, by decide +kernel⟩
theorem stl_proposalAt : Cond.static yL_proposalAt ∈ qW := (qW_at 553 (by decide +kernel) rfl)
set_option maxRecDepth 100000 in
set_option maxHeartbeats 1600000 in
theorem E0_L_proposalAt (sv : Nat) (p0 p1 : Int32) : MEH yL_proposalAt cL_proposalAt 4 (some .int) [(0, 6, 7, 16)] 8 129 2 12 (fun _ => [.ref sv, .int p0, .int p1]) (fun _ mm R => PW0 sv (F_X6_proposalAt sv p0 p1) (fun v => True) mpD mm R) := by
  refine MEH_of (env0 := fun _ => [(0, .ref sv), (1, .int p0), (2, .int p1)]) (by decide) (fun _ => by exact Nat.le_of_ble_eq_true rfl) (fun _ => by rfl) (fun k mm R X C hR hN hr hname hP => ?_)
  have X : CX k cL_proposalAt RL := X
  have htr := C.2.2.2.1
  obtain ⟨h1, r, m1, hx, hok, her⟩ := hP
  let T9 : Nat → QM → Prop := fun e m' => ∃ cd, mpD e = some cd ∧ ∀ n, qtop m' ≤ n → R (.ok (some (.int cd))) (stop m' n)
  have hTp : THp k 3 T9 := by
    intro e mm9 H locs ls rest ce q9 a9 b9 hT9 z9 hn9 hl9 hls9 hq9 hv9 hc9 ha9 hb9
    obtain ⟨cd, hcd, hR9⟩ := hT9
    unfold mpD at hcd
    by_cases e1 : e = 1
    · subst e1
      have hcd : some (-1000001 : Int32) = some cd := hcd
      cases hcd
      refine t_catch (e := 1) (hh := [(0, 6, 7, 16)]) (pre := []) (suf := []) X C.2.1 rfl (by decide) (by decide) (by decide) (qW_at 301 (by decide +kernel) rfl) (qN_at 311 (by decide +kernel) rfl) (fun z hz => absurd hz List.not_mem_nil) (fun q n a b hn ha hb => ?_) H locs ls rest ce q9 a9 b9 z9 hn9 hl9 hls9 hq9 hv9 hc9 ha9 hb9
      refine t_as (env' := [(3, .ref q)]) X dL_proposalAt_7 rfl (by rw [hN]; decide) rfl ?_
      refine g_ldc (v := (-1000001)) X dL_proposalAt_8 (qW_at 324 (by decide +kernel) rfl) ?_
      exact h_iret X C hr rfl dL_proposalAt_10 ha hb (hR9 n hn)
    · rw [if_neg e1] at hcd
      exact absurd hcd (by simp)
  refine t_al 0 X dL_proposalAt_0 rfl rfl ?_
  refine g_iload_n 1 X dL_proposalAt_1 rfl rfl ?_
  refine g_iload_n 2 X dL_proposalAt_2 rfl rfl ?_
  refine p_callV (st := []) (q := sv) (av := [.int p0, .int p1]) (T := T9) X hTp htr rfl h1 (M_X6_proposalAt sv p0 p1) lk_X6_proposalAt im_X6_proposalAt se_X6_proposalAt (qW_at 555 (by decide +kernel) rfl) rfl (by rw [hR]; exact ⟨Nat.le_of_ble_eq_true rfl, Nat.le_of_ble_eq_true rfl⟩) (by exact Nat.le_of_ble_eq_true rfl) (by rw [hR]; exact ⟨Nat.le_of_ble_eq_true rfl, Nat.le_of_ble_eq_true rfl⟩) dL_proposalAt_3 (by rfl) ?_
  unfold qwp
  rw [hx]
  cases r with
  | error e => exact her e rfl
  | ok v =>
    show GG k _ (.int v :: []) m1 _ _ _
    exact h_iret X C hr rfl dL_proposalAt_6 (by rw [hR]; exact Nat.le_of_ble_eq_true rfl) (by rw [hR]; exact Nat.le_of_ble_eq_true rfl) ((hok v rfl).2)
theorem dL_rank_0 : decode cL_rank 0 = .ok (.aload_n 0, 1) := by decide +kernel
theorem dL_rank_1 : decode cL_rank 1 = .ok (.iload_n 1, 1) := by decide +kernel
theorem dL_rank_2 : decode cL_rank 2 = .ok (.iload_n 2, 1) := by decide +kernel
theorem dL_rank_3 : decode cL_rank 3 = .ok (.invokevirtual 135, 3) := by decide +kernel
theorem dL_rank_6 : decode cL_rank 6 = .ok (.ireturn, 1) := by decide +kernel
theorem dL_rank_7 : decode cL_rank 7 = .ok (.astore_n 3, 1) := by decide +kernel
theorem dL_rank_8 : decode cL_rank 8 = .ok (.ldc 18, 2) := by decide +kernel
theorem dL_rank_10 : decode cL_rank 10 = .ok (.ireturn, 1) := by decide +kernel
theorem dL_rank_11 : decode cL_rank 11 = .ok (.astore_n 3, 1) := by decide +kernel
theorem dL_rank_12 : decode cL_rank 12 = .ok (.ldc 21, 2) := by decide +kernel
theorem dL_rank_14 : decode cL_rank 14 = .ok (.ireturn, 1) := by decide +kernel
theorem lkh_rank : LKH yL_rank cL_rank 4 (some .int) [(0, 6, 7, 16), (0, 6, 11, 19)] 3 := ⟨(qW_at 478 (by decide +kernel) rfl), (qW_at 28 (by decide +kernel) rfl), by decide, by decide, by decide +kernel⟩
theorem stl_rank : Cond.static yL_rank ∈ qW := (qW_at 477 (by decide +kernel) rfl)
set_option maxRecDepth 100000 in
set_option maxHeartbeats 1600000 in
theorem E0_L_rank (sv : Nat) (p0 p1 : Int32) : MEH yL_rank cL_rank 4 (some .int) [(0, 6, 7, 16), (0, 6, 11, 19)] 9 147 2 12 (fun _ => [.ref sv, .int p0, .int p1]) (fun _ mm R => PW0 sv (F_X6_rank sv p0 p1) (fun v => True) mpB mm R) := by
  refine MEH_of (env0 := fun _ => [(0, .ref sv), (1, .int p0), (2, .int p1)]) (by decide) (fun _ => by exact Nat.le_of_ble_eq_true rfl) (fun _ => by rfl) (fun k mm R X C hR hN hr hname hP => ?_)
  have X : CX k cL_rank RL := X
  have htr := C.2.2.2.1
  obtain ⟨h1, r, m1, hx, hok, her⟩ := hP
  let T9 : Nat → QM → Prop := fun e m' => ∃ cd, mpB e = some cd ∧ ∀ n, qtop m' ≤ n → R (.ok (some (.int cd))) (stop m' n)
  have hTp : THp k 3 T9 := by
    intro e mm9 H locs ls rest ce q9 a9 b9 hT9 z9 hn9 hl9 hls9 hq9 hv9 hc9 ha9 hb9
    obtain ⟨cd, hcd, hR9⟩ := hT9
    unfold mpB at hcd
    by_cases e1 : e = 1
    · subst e1
      have hcd : some (-1000001 : Int32) = some cd := hcd
      cases hcd
      refine t_catch (e := 1) (hh := [(0, 6, 7, 16), (0, 6, 11, 19)]) (pre := []) (suf := [(0, 6, 11, 19)]) X C.2.1 rfl (by decide) (by decide) (by decide) (qW_at 301 (by decide +kernel) rfl) (qN_at 311 (by decide +kernel) rfl) (fun z hz => absurd hz List.not_mem_nil) (fun q n a b hn ha hb => ?_) H locs ls rest ce q9 a9 b9 z9 hn9 hl9 hls9 hq9 hv9 hc9 ha9 hb9
      refine t_as (env' := [(3, .ref q)]) X dL_rank_7 rfl (by rw [hN]; decide) rfl ?_
      refine g_ldc (v := (-1000001)) X dL_rank_8 (qW_at 324 (by decide +kernel) rfl) ?_
      exact h_iret X C hr rfl dL_rank_10 ha hb (hR9 n hn)
    · rw [if_neg e1] at hcd
      by_cases e2 : e = 2
      · subst e2
        have hcd : some (-1000002 : Int32) = some cd := hcd
        cases hcd
        refine t_catch (e := 2) (hh := [(0, 6, 7, 16), (0, 6, 11, 19)]) (pre := [(0, 6, 7, 16)]) (suf := []) X C.2.1 rfl (by decide) (by decide) (by decide) (qW_at 153 (by decide +kernel) rfl) (qN_at 169 (by decide +kernel) rfl) (fun z hz => by
          simp only [List.mem_cons, List.mem_nil_iff, or_false] at hz
          rcases hz with rfl
          · exact ⟨by decide, 1, by decide, by decide, (qW_at 301 (by decide +kernel) rfl)⟩) (fun q n a b hn ha hb => ?_) H locs ls rest ce q9 a9 b9 z9 hn9 hl9 hls9 hq9 hv9 hc9 ha9 hb9
        refine t_as (env' := [(3, .ref q)]) X dL_rank_11 rfl (by rw [hN]; decide) rfl ?_
        refine g_ldc (v := (-1000002)) X dL_rank_12 (qW_at 297 (by decide +kernel) rfl) ?_
        exact h_iret X C hr rfl dL_rank_14 ha hb (hR9 n hn)
      · rw [if_neg e2] at hcd
        exact absurd hcd (by simp)
  refine t_al 0 X dL_rank_0 rfl rfl ?_
  refine g_iload_n 1 X dL_rank_1 rfl rfl ?_
  refine g_iload_n 2 X dL_rank_2 rfl rfl ?_
  refine p_callV (st := []) (q := sv) (av := [.int p0, .int p1]) (T := T9) X hTp htr rfl h1 (M_X6_rank sv p0 p1) lk_X6_rank im_X6_rank se_X6_rank (qW_at 479 (by decide +kernel) rfl) rfl (by rw [hR]; exact ⟨Nat.le_of_ble_eq_true rfl, Nat.le_of_ble_eq_true rfl⟩) (by exact Nat.le_of_ble_eq_true rfl) (by rw [hR]; exact ⟨Nat.le_of_ble_eq_true rfl, Nat.le_of_ble_eq_true rfl⟩) dL_rank_3 (by rfl) ?_
  unfold qwp
  rw [hx]
  cases r with
  | error e => exact her e rfl
  | ok v =>
    show GG k _ (.int v :: []) m1 _ _ _
    exact h_iret X C hr rfl dL_rank_6 (by rw [hR]; exact Nat.le_of_ble_eq_true rfl) (by rw [hR]; exact Nat.le_of_ble_eq_true rfl) ((hok v rfl).2)
theorem dL_firstFree_0 : decode cL_firstFree 0 = .ok (.aload_n 0, 1) := by decide +kernel
theorem dL_firstFree_1 : decode cL_firstFree 1 = .ok (.iload_n 1, 1) := by decide +kernel
theorem dL_firstFree_2 : decode cL_firstFree 2 = .ok (.iload_n 2, 1) := by decide +kernel
theorem dL_firstFree_3 : decode cL_firstFree 3 = .ok (.iload_n 3, 1) := by decide +kernel
theorem dL_firstFree_4 : decode cL_firstFree 4 = .ok (.invokevirtual 138, 3) := by decide +kernel
theorem dL_firstFree_7 : decode cL_firstFree 7 = .ok (.ireturn, 1) := by decide +kernel
theorem dL_firstFree_8 : decode cL_firstFree 8 = .ok (.astore 4, 2) := by decide +kernel
theorem dL_firstFree_10 : decode cL_firstFree 10 = .ok (.ldc 21, 2) := by decide +kernel
theorem dL_firstFree_12 : decode cL_firstFree 12 = .ok (.ireturn, 1) := by decide +kernel
theorem lkh_firstFree : LKH yL_firstFree cL_firstFree 5 (some .int) [(0, 7, 8, 19)] 4 := ⟨(qW_at 152 (by decide +kernel) rfl), (qW_at 28 (by decide +kernel) rfl), by decide, by decide, by decide +kernel⟩
theorem stl_firstFree : Cond.static yL_firstFree ∈ qW := (qW_at 151 (by decide +kernel) rfl)
set_option maxRecDepth 100000 in
set_option maxHeartbeats 1600000 in
theorem E0_L_firstFree (sv : Nat) (p0 p1 p2 : Int32) : MEH yL_firstFree cL_firstFree 5 (some .int) [(0, 7, 8, 19)] 10 172 3 18 (fun _ => [.ref sv, .int p0, .int p1, .int p2]) (fun _ mm R => PW0 sv (F_X6_firstFree sv p0 p1 p2) (fun v => True) mpE mm R) := by
  refine MEH_of (env0 := fun _ => [(0, .ref sv), (1, .int p0), (2, .int p1), (3, .int p2)]) (by decide) (fun _ => by exact Nat.le_of_ble_eq_true rfl) (fun _ => by rfl) (fun k mm R X C hR hN hr hname hP => ?_)
  have X : CX k cL_firstFree RL := X
  have htr := C.2.2.2.1
  obtain ⟨h1, r, m1, hx, hok, her⟩ := hP
  let T9 : Nat → QM → Prop := fun e m' => ∃ cd, mpE e = some cd ∧ ∀ n, qtop m' ≤ n → R (.ok (some (.int cd))) (stop m' n)
  have hTp : THp k 4 T9 := by
    intro e mm9 H locs ls rest ce q9 a9 b9 hT9 z9 hn9 hl9 hls9 hq9 hv9 hc9 ha9 hb9
    obtain ⟨cd, hcd, hR9⟩ := hT9
    unfold mpE at hcd
    by_cases e2 : e = 2
    · subst e2
      have hcd : some (-1000002 : Int32) = some cd := hcd
      cases hcd
      refine t_catch (e := 2) (hh := [(0, 7, 8, 19)]) (pre := []) (suf := []) X C.2.1 rfl (by decide) (by decide) (by decide) (qW_at 153 (by decide +kernel) rfl) (qN_at 169 (by decide +kernel) rfl) (fun z hz => absurd hz List.not_mem_nil) (fun q n a b hn ha hb => ?_) H locs ls rest ce q9 a9 b9 z9 hn9 hl9 hls9 hq9 hv9 hc9 ha9 hb9
      refine g_astore (r := some q) (env' := [(4, .ref q)]) X dL_firstFree_8 (by rw [hN]; decide) rfl ?_
      refine g_ldc (v := (-1000002)) X dL_firstFree_10 (qW_at 297 (by decide +kernel) rfl) ?_
      exact h_iret X C hr rfl dL_firstFree_12 ha hb (hR9 n hn)
    · rw [if_neg e2] at hcd
      exact absurd hcd (by simp)
  refine t_al 0 X dL_firstFree_0 rfl rfl ?_
  refine g_iload_n 1 X dL_firstFree_1 rfl rfl ?_
  refine g_iload_n 2 X dL_firstFree_2 rfl rfl ?_
  refine g_iload_n 3 X dL_firstFree_3 rfl rfl ?_
  refine p_callV (st := []) (q := sv) (av := [.int p0, .int p1, .int p2]) (T := T9) X hTp htr rfl h1 (M_X6_firstFree sv p0 p1 p2) lk_X6_firstFree im_X6_firstFree se_X6_firstFree (qW_at 154 (by decide +kernel) rfl) rfl (by rw [hR]; exact ⟨Nat.le_of_ble_eq_true rfl, Nat.le_of_ble_eq_true rfl⟩) (by exact Nat.le_of_ble_eq_true rfl) (by rw [hR]; exact ⟨Nat.le_of_ble_eq_true rfl, Nat.le_of_ble_eq_true rfl⟩) dL_firstFree_4 (by rfl) ?_
  unfold qwp
  rw [hx]
  cases r with
  | error e => exact her e rfl
  | ok v =>
    show GG k _ (.int v :: []) m1 _ _ _
    exact h_iret X C hr rfl dL_firstFree_7 (by rw [hR]; exact Nat.le_of_ble_eq_true rfl) (by rw [hR]; exact Nat.le_of_ble_eq_true rfl) ((hok v rfl).2)
theorem dL_firstFreeByHours_0 : decode cL_firstFreeByHours 0 = .ok (.aload_n 0, 1) := by decide +kernel
theorem dL_firstFreeByHours_1 : decode cL_firstFreeByHours 1 = .ok (.iload_n 1, 1) := by decide +kernel
theorem dL_firstFreeByHours_2 : decode cL_firstFreeByHours 2 = .ok (.iload_n 2, 1) := by decide +kernel
theorem dL_firstFreeByHours_3 : decode cL_firstFreeByHours 3 = .ok (.iload_n 3, 1) := by decide +kernel
theorem dL_firstFreeByHours_4 : decode cL_firstFreeByHours 4 = .ok (.invokevirtual 141, 3) := by decide +kernel
theorem dL_firstFreeByHours_7 : decode cL_firstFreeByHours 7 = .ok (.ireturn, 1) := by decide +kernel
theorem dL_firstFreeByHours_8 : decode cL_firstFreeByHours 8 = .ok (.astore 4, 2) := by decide +kernel
theorem dL_firstFreeByHours_10 : decode cL_firstFreeByHours 10 = .ok (.ldc 21, 2) := by decide +kernel
theorem dL_firstFreeByHours_12 : decode cL_firstFreeByHours 12 = .ok (.ireturn, 1) := by decide +kernel
theorem lkh_firstFreeByHours : LKH yL_firstFreeByHours cL_firstFreeByHours 5 (some .int) [(0, 7, 8, 19)] 4 := ⟨(qW_at 596 (by decide +kernel) rfl), (qW_at 28 (by decide +kernel) rfl), by decide, by decide, by decide +kernel⟩
theorem stl_firstFreeByHours : Cond.static yL_firstFreeByHours ∈ qW := (qW_at 595 (by decide +kernel) rfl)
set_option maxRecDepth 100000 in
set_option maxHeartbeats 1600000 in
theorem E0_L_firstFreeByHours (sv : Nat) (p0 p1 p2 : Int32) : MEH yL_firstFreeByHours cL_firstFreeByHours 5 (some .int) [(0, 7, 8, 19)] 10 170 3 18 (fun _ => [.ref sv, .int p0, .int p1, .int p2]) (fun _ mm R => PW0 sv (F_X6_firstFreeByHours sv p0 p1 p2) (fun v => True) mpE mm R) := by
  refine MEH_of (env0 := fun _ => [(0, .ref sv), (1, .int p0), (2, .int p1), (3, .int p2)]) (by decide) (fun _ => by exact Nat.le_of_ble_eq_true rfl) (fun _ => by rfl) (fun k mm R X C hR hN hr hname hP => ?_)
  have X : CX k cL_firstFreeByHours RL := X
  have htr := C.2.2.2.1
  obtain ⟨h1, r, m1, hx, hok, her⟩ := hP
  let T9 : Nat → QM → Prop := fun e m' => ∃ cd, mpE e = some cd ∧ ∀ n, qtop m' ≤ n → R (.ok (some (.int cd))) (stop m' n)
  have hTp : THp k 4 T9 := by
    intro e mm9 H locs ls rest ce q9 a9 b9 hT9 z9 hn9 hl9 hls9 hq9 hv9 hc9 ha9 hb9
    obtain ⟨cd, hcd, hR9⟩ := hT9
    unfold mpE at hcd
    by_cases e2 : e = 2
    · subst e2
      have hcd : some (-1000002 : Int32) = some cd := hcd
      cases hcd
      refine t_catch (e := 2) (hh := [(0, 7, 8, 19)]) (pre := []) (suf := []) X C.2.1 rfl (by decide) (by decide) (by decide) (qW_at 153 (by decide +kernel) rfl) (qN_at 169 (by decide +kernel) rfl) (fun z hz => absurd hz List.not_mem_nil) (fun q n a b hn ha hb => ?_) H locs ls rest ce q9 a9 b9 z9 hn9 hl9 hls9 hq9 hv9 hc9 ha9 hb9
      refine g_astore (r := some q) (env' := [(4, .ref q)]) X dL_firstFreeByHours_8 (by rw [hN]; decide) rfl ?_
      refine g_ldc (v := (-1000002)) X dL_firstFreeByHours_10 (qW_at 297 (by decide +kernel) rfl) ?_
      exact h_iret X C hr rfl dL_firstFreeByHours_12 ha hb (hR9 n hn)
    · rw [if_neg e2] at hcd
      exact absurd hcd (by simp)
  refine t_al 0 X dL_firstFreeByHours_0 rfl rfl ?_
  refine g_iload_n 1 X dL_firstFreeByHours_1 rfl rfl ?_
  refine g_iload_n 2 X dL_firstFreeByHours_2 rfl rfl ?_
  refine g_iload_n 3 X dL_firstFreeByHours_3 rfl rfl ?_
  refine p_callV (st := []) (q := sv) (av := [.int p0, .int p1, .int p2]) (T := T9) X hTp htr rfl h1 (M_X6_firstFreeByHours sv p0 p1 p2) lk_X6_firstFreeByHours im_X6_firstFreeByHours se_X6_firstFreeByHours (qW_at 597 (by decide +kernel) rfl) rfl (by rw [hR]; exact ⟨Nat.le_of_ble_eq_true rfl, Nat.le_of_ble_eq_true rfl⟩) (by exact Nat.le_of_ble_eq_true rfl) (by rw [hR]; exact ⟨Nat.le_of_ble_eq_true rfl, Nat.le_of_ble_eq_true rfl⟩) dL_firstFreeByHours_4 (by rfl) ?_
  unfold qwp
  rw [hx]
  cases r with
  | error e => exact her e rfl
  | ok v =>
    show GG k _ (.int v :: []) m1 _ _ _
    exact h_iret X C hr rfl dL_firstFreeByHours_7 (by rw [hR]; exact Nat.le_of_ble_eq_true rfl) (by rw [hR]; exact Nat.le_of_ble_eq_true rfl) ((hok v rfl).2)
theorem dL_mark_0 : decode cL_mark 0 = .ok (.aload_n 0, 1) := by decide +kernel
theorem dL_mark_1 : decode cL_mark 1 = .ok (.iload_n 1, 1) := by decide +kernel
theorem dL_mark_2 : decode cL_mark 2 = .ok (.invokevirtual 144, 3) := by decide +kernel
theorem dL_mark_5 : decode cL_mark 5 = .ok (.ireturn, 1) := by decide +kernel
theorem dL_mark_6 : decode cL_mark 6 = .ok (.astore_n 2, 1) := by decide +kernel
theorem dL_mark_7 : decode cL_mark 7 = .ok (.ldc 18, 2) := by decide +kernel
theorem dL_mark_9 : decode cL_mark 9 = .ok (.ireturn, 1) := by decide +kernel
theorem lkh_mark : LKH yL_mark cL_mark 3 (some .int) [(0, 5, 6, 16)] 2 := ⟨(qW_at 300 (by decide +kernel) rfl), (qW_at 28 (by decide +kernel) rfl), by decide, by decide, by decide +kernel⟩
theorem stl_mark : Cond.static yL_mark ∈ qW := (qW_at 299 (by decide +kernel) rfl)
set_option maxRecDepth 100000 in
set_option maxHeartbeats 1600000 in
theorem E0_L_mark (sv : Nat) (p0 : Int32) : MEH yL_mark cL_mark 3 (some .int) [(0, 5, 6, 16)] 8 122 1 6 (fun _ => [.ref sv, .int p0]) (fun _ mm R => PW0 sv (F_X6_mark sv p0) (fun v => True) mpD mm R) := by
  refine MEH_of (env0 := fun _ => [(0, .ref sv), (1, .int p0)]) (by decide) (fun _ => by exact Nat.le_of_ble_eq_true rfl) (fun _ => by rfl) (fun k mm R X C hR hN hr hname hP => ?_)
  have X : CX k cL_mark RL := X
  have htr := C.2.2.2.1
  obtain ⟨h1, r, m1, hx, hok, her⟩ := hP
  let T9 : Nat → QM → Prop := fun e m' => ∃ cd, mpD e = some cd ∧ ∀ n, qtop m' ≤ n → R (.ok (some (.int cd))) (stop m' n)
  have hTp : THp k 2 T9 := by
    intro e mm9 H locs ls rest ce q9 a9 b9 hT9 z9 hn9 hl9 hls9 hq9 hv9 hc9 ha9 hb9
    obtain ⟨cd, hcd, hR9⟩ := hT9
    unfold mpD at hcd
    by_cases e1 : e = 1
    · subst e1
      have hcd : some (-1000001 : Int32) = some cd := hcd
      cases hcd
      refine t_catch (e := 1) (hh := [(0, 5, 6, 16)]) (pre := []) (suf := []) X C.2.1 rfl (by decide) (by decide) (by decide) (qW_at 301 (by decide +kernel) rfl) (qN_at 311 (by decide +kernel) rfl) (fun z hz => absurd hz List.not_mem_nil) (fun q n a b hn ha hb => ?_) H locs ls rest ce q9 a9 b9 z9 hn9 hl9 hls9 hq9 hv9 hc9 ha9 hb9
      refine t_as (env' := [(2, .ref q)]) X dL_mark_6 rfl (by rw [hN]; decide) rfl ?_
      refine g_ldc (v := (-1000001)) X dL_mark_7 (qW_at 324 (by decide +kernel) rfl) ?_
      exact h_iret X C hr rfl dL_mark_9 ha hb (hR9 n hn)
    · rw [if_neg e1] at hcd
      exact absurd hcd (by simp)
  refine t_al 0 X dL_mark_0 rfl rfl ?_
  refine g_iload_n 1 X dL_mark_1 rfl rfl ?_
  refine p_callV (st := []) (q := sv) (av := [.int p0]) (T := T9) X hTp htr rfl h1 (M_X6_mark sv p0) lk_X6_mark im_X6_mark se_X6_mark (qW_at 302 (by decide +kernel) rfl) rfl (by rw [hR]; exact ⟨Nat.le_of_ble_eq_true rfl, Nat.le_of_ble_eq_true rfl⟩) (by exact Nat.le_of_ble_eq_true rfl) (by rw [hR]; exact ⟨Nat.le_of_ble_eq_true rfl, Nat.le_of_ble_eq_true rfl⟩) dL_mark_2 (by rfl) ?_
  unfold qwp
  rw [hx]
  cases r with
  | error e => exact her e rfl
  | ok v =>
    show GG k _ (.int v :: []) m1 _ _ _
    exact h_iret X C hr rfl dL_mark_5 (by rw [hR]; exact Nat.le_of_ble_eq_true rfl) (by rw [hR]; exact Nat.le_of_ble_eq_true rfl) ((hok v rfl).2)
theorem dL_changes_0 : decode cL_changes 0 = .ok (.aload_n 0, 1) := by decide +kernel
theorem dL_changes_1 : decode cL_changes 1 = .ok (.iload_n 1, 1) := by decide +kernel
theorem dL_changes_2 : decode cL_changes 2 = .ok (.iload_n 2, 1) := by decide +kernel
theorem dL_changes_3 : decode cL_changes 3 = .ok (.invokevirtual 147, 3) := by decide +kernel
theorem dL_changes_6 : decode cL_changes 6 = .ok (.ireturn, 1) := by decide +kernel
theorem dL_changes_7 : decode cL_changes 7 = .ok (.astore_n 3, 1) := by decide +kernel
theorem dL_changes_8 : decode cL_changes 8 = .ok (.ldc 18, 2) := by decide +kernel
theorem dL_changes_10 : decode cL_changes 10 = .ok (.ireturn, 1) := by decide +kernel
theorem dL_changes_11 : decode cL_changes 11 = .ok (.astore_n 3, 1) := by decide +kernel
theorem dL_changes_12 : decode cL_changes 12 = .ok (.ldc 21, 2) := by decide +kernel
theorem dL_changes_14 : decode cL_changes 14 = .ok (.ireturn, 1) := by decide +kernel
theorem dL_changes_15 : decode cL_changes 15 = .ok (.astore_n 3, 1) := by decide +kernel
theorem dL_changes_16 : decode cL_changes 16 = .ok (.ldc 38, 2) := by decide +kernel
theorem dL_changes_18 : decode cL_changes 18 = .ok (.ireturn, 1) := by decide +kernel
theorem lkh_changes : LKH yL_changes cL_changes 4 (some .int) [(0, 6, 7, 16), (0, 6, 11, 19), (0, 6, 15, 36)] 3 := ⟨(qW_at 327 (by decide +kernel) rfl), (qW_at 28 (by decide +kernel) rfl), by decide, by decide, by decide +kernel⟩
theorem stl_changes : Cond.static yL_changes ∈ qW := (qW_at 326 (by decide +kernel) rfl)
set_option maxRecDepth 100000 in
set_option maxHeartbeats 1600000 in
theorem E0_L_changes (sv : Nat) (p0 p1 : Int32) : MEH yL_changes cL_changes 4 (some .int) [(0, 6, 7, 16), (0, 6, 11, 19), (0, 6, 15, 36)] 10 168 3 18 (fun _ => [.ref sv, .int p0, .int p1]) (fun _ mm R => PW0 sv (F_X6_changes sv p0 p1) (fun v => True) mpA mm R) := by
  refine MEH_of (env0 := fun _ => [(0, .ref sv), (1, .int p0), (2, .int p1)]) (by decide) (fun _ => by exact Nat.le_of_ble_eq_true rfl) (fun _ => by rfl) (fun k mm R X C hR hN hr hname hP => ?_)
  have X : CX k cL_changes RL := X
  have htr := C.2.2.2.1
  obtain ⟨h1, r, m1, hx, hok, her⟩ := hP
  let T9 : Nat → QM → Prop := fun e m' => ∃ cd, mpA e = some cd ∧ ∀ n, qtop m' ≤ n → R (.ok (some (.int cd))) (stop m' n)
  have hTp : THp k 3 T9 := by
    intro e mm9 H locs ls rest ce q9 a9 b9 hT9 z9 hn9 hl9 hls9 hq9 hv9 hc9 ha9 hb9
    obtain ⟨cd, hcd, hR9⟩ := hT9
    unfold mpA at hcd
    by_cases e1 : e = 1
    · subst e1
      have hcd : some (-1000001 : Int32) = some cd := hcd
      cases hcd
      refine t_catch (e := 1) (hh := [(0, 6, 7, 16), (0, 6, 11, 19), (0, 6, 15, 36)]) (pre := []) (suf := [(0, 6, 11, 19), (0, 6, 15, 36)]) X C.2.1 rfl (by decide) (by decide) (by decide) (qW_at 301 (by decide +kernel) rfl) (qN_at 311 (by decide +kernel) rfl) (fun z hz => absurd hz List.not_mem_nil) (fun q n a b hn ha hb => ?_) H locs ls rest ce q9 a9 b9 z9 hn9 hl9 hls9 hq9 hv9 hc9 ha9 hb9
      refine t_as (env' := [(3, .ref q)]) X dL_changes_7 rfl (by rw [hN]; decide) rfl ?_
      refine g_ldc (v := (-1000001)) X dL_changes_8 (qW_at 324 (by decide +kernel) rfl) ?_
      exact h_iret X C hr rfl dL_changes_10 ha hb (hR9 n hn)
    · rw [if_neg e1] at hcd
      by_cases e2 : e = 2
      · subst e2
        have hcd : some (-1000002 : Int32) = some cd := hcd
        cases hcd
        refine t_catch (e := 2) (hh := [(0, 6, 7, 16), (0, 6, 11, 19), (0, 6, 15, 36)]) (pre := [(0, 6, 7, 16)]) (suf := [(0, 6, 15, 36)]) X C.2.1 rfl (by decide) (by decide) (by decide) (qW_at 153 (by decide +kernel) rfl) (qN_at 169 (by decide +kernel) rfl) (fun z hz => by
          simp only [List.mem_cons, List.mem_nil_iff, or_false] at hz
          rcases hz with rfl
          · exact ⟨by decide, 1, by decide, by decide, (qW_at 301 (by decide +kernel) rfl)⟩) (fun q n a b hn ha hb => ?_) H locs ls rest ce q9 a9 b9 z9 hn9 hl9 hls9 hq9 hv9 hc9 ha9 hb9
        refine t_as (env' := [(3, .ref q)]) X dL_changes_11 rfl (by rw [hN]; decide) rfl ?_
        refine g_ldc (v := (-1000002)) X dL_changes_12 (qW_at 297 (by decide +kernel) rfl) ?_
        exact h_iret X C hr rfl dL_changes_14 ha hb (hR9 n hn)
      · rw [if_neg e2] at hcd
        by_cases e3 : e = 3
        · subst e3
          have hcd : some (-1000003 : Int32) = some cd := hcd
          cases hcd
          refine t_catch (e := 3) (hh := [(0, 6, 7, 16), (0, 6, 11, 19), (0, 6, 15, 36)]) (pre := [(0, 6, 7, 16), (0, 6, 11, 19)]) (suf := []) X C.2.1 rfl (by decide) (by decide) (by decide) (qW_at 328 (by decide +kernel) rfl) (qN_at 342 (by decide +kernel) rfl) (fun z hz => by
            simp only [List.mem_cons, List.mem_nil_iff, or_false] at hz
            rcases hz with rfl | rfl
            · exact ⟨by decide, 1, by decide, by decide, (qW_at 301 (by decide +kernel) rfl)⟩
            · exact ⟨by decide, 2, by decide, by decide, (qW_at 153 (by decide +kernel) rfl)⟩) (fun q n a b hn ha hb => ?_) H locs ls rest ce q9 a9 b9 z9 hn9 hl9 hls9 hq9 hv9 hc9 ha9 hb9
          refine t_as (env' := [(3, .ref q)]) X dL_changes_15 rfl (by rw [hN]; decide) rfl ?_
          refine g_ldc (v := (-1000003)) X dL_changes_16 (qW_at 363 (by decide +kernel) rfl) ?_
          exact h_iret X C hr rfl dL_changes_18 ha hb (hR9 n hn)
        · rw [if_neg e3] at hcd
          exact absurd hcd (by simp)
  refine t_al 0 X dL_changes_0 rfl rfl ?_
  refine g_iload_n 1 X dL_changes_1 rfl rfl ?_
  refine g_iload_n 2 X dL_changes_2 rfl rfl ?_
  refine p_callV (st := []) (q := sv) (av := [.int p0, .int p1]) (T := T9) X hTp htr rfl h1 (M_X6_changes sv p0 p1) lk_X6_changes im_X6_changes se_X6_changes (qW_at 329 (by decide +kernel) rfl) rfl (by rw [hR]; exact ⟨Nat.le_of_ble_eq_true rfl, Nat.le_of_ble_eq_true rfl⟩) (by exact Nat.le_of_ble_eq_true rfl) (by rw [hR]; exact ⟨Nat.le_of_ble_eq_true rfl, Nat.le_of_ble_eq_true rfl⟩) dL_changes_3 (by rfl) ?_
  unfold qwp
  rw [hx]
  cases r with
  | error e => exact her e rfl
  | ok v =>
    show GG k _ (.int v :: []) m1 _ _ _
    exact h_iret X C hr rfl dL_changes_6 (by rw [hR]; exact Nat.le_of_ble_eq_true rfl) (by rw [hR]; exact Nat.le_of_ble_eq_true rfl) ((hok v rfl).2)
theorem dL_changeAt_0 : decode cL_changeAt 0 = .ok (.aload_n 0, 1) := by decide +kernel
theorem dL_changeAt_1 : decode cL_changeAt 1 = .ok (.iload_n 1, 1) := by decide +kernel
theorem dL_changeAt_2 : decode cL_changeAt 2 = .ok (.iload_n 2, 1) := by decide +kernel
theorem dL_changeAt_3 : decode cL_changeAt 3 = .ok (.iload_n 3, 1) := by decide +kernel
theorem dL_changeAt_4 : decode cL_changeAt 4 = .ok (.invokevirtual 150, 3) := by decide +kernel
theorem dL_changeAt_7 : decode cL_changeAt 7 = .ok (.ireturn, 1) := by decide +kernel
theorem dL_changeAt_8 : decode cL_changeAt 8 = .ok (.astore 4, 2) := by decide +kernel
theorem dL_changeAt_10 : decode cL_changeAt 10 = .ok (.ldc 18, 2) := by decide +kernel
theorem dL_changeAt_12 : decode cL_changeAt 12 = .ok (.ireturn, 1) := by decide +kernel
theorem dL_changeAt_13 : decode cL_changeAt 13 = .ok (.astore 4, 2) := by decide +kernel
theorem dL_changeAt_15 : decode cL_changeAt 15 = .ok (.ldc 21, 2) := by decide +kernel
theorem dL_changeAt_17 : decode cL_changeAt 17 = .ok (.ireturn, 1) := by decide +kernel
theorem dL_changeAt_18 : decode cL_changeAt 18 = .ok (.astore 4, 2) := by decide +kernel
theorem dL_changeAt_20 : decode cL_changeAt 20 = .ok (.ldc 38, 2) := by decide +kernel
theorem dL_changeAt_22 : decode cL_changeAt 22 = .ok (.ireturn, 1) := by decide +kernel
theorem lkh_changeAt : LKH yL_changeAt cL_changeAt 5 (some .int) [(0, 7, 8, 16), (0, 7, 13, 19), (0, 7, 18, 36)] 4 := ⟨(qW_at 402 (by decide +kernel) rfl), (qW_at 28 (by decide +kernel) rfl), by decide, by decide, by decide +kernel⟩
theorem stl_changeAt : Cond.static yL_changeAt ∈ qW := (qW_at 401 (by decide +kernel) rfl)
set_option maxRecDepth 100000 in
set_option maxHeartbeats 1600000 in
theorem E0_L_changeAt (sv : Nat) (p0 p1 p2 : Int32) : MEH yL_changeAt cL_changeAt 5 (some .int) [(0, 7, 8, 16), (0, 7, 13, 19), (0, 7, 18, 36)] 10 173 4 24 (fun _ => [.ref sv, .int p0, .int p1, .int p2]) (fun _ mm R => PW0 sv (F_X6_changeAt sv p0 p1 p2) (fun v => True) mpA mm R) := by
  refine MEH_of (env0 := fun _ => [(0, .ref sv), (1, .int p0), (2, .int p1), (3, .int p2)]) (by decide) (fun _ => by exact Nat.le_of_ble_eq_true rfl) (fun _ => by rfl) (fun k mm R X C hR hN hr hname hP => ?_)
  have X : CX k cL_changeAt RL := X
  have htr := C.2.2.2.1
  obtain ⟨h1, r, m1, hx, hok, her⟩ := hP
  let T9 : Nat → QM → Prop := fun e m' => ∃ cd, mpA e = some cd ∧ ∀ n, qtop m' ≤ n → R (.ok (some (.int cd))) (stop m' n)
  have hTp : THp k 4 T9 := by
    intro e mm9 H locs ls rest ce q9 a9 b9 hT9 z9 hn9 hl9 hls9 hq9 hv9 hc9 ha9 hb9
    obtain ⟨cd, hcd, hR9⟩ := hT9
    unfold mpA at hcd
    by_cases e1 : e = 1
    · subst e1
      have hcd : some (-1000001 : Int32) = some cd := hcd
      cases hcd
      refine t_catch (e := 1) (hh := [(0, 7, 8, 16), (0, 7, 13, 19), (0, 7, 18, 36)]) (pre := []) (suf := [(0, 7, 13, 19), (0, 7, 18, 36)]) X C.2.1 rfl (by decide) (by decide) (by decide) (qW_at 301 (by decide +kernel) rfl) (qN_at 311 (by decide +kernel) rfl) (fun z hz => absurd hz List.not_mem_nil) (fun q n a b hn ha hb => ?_) H locs ls rest ce q9 a9 b9 z9 hn9 hl9 hls9 hq9 hv9 hc9 ha9 hb9
      refine g_astore (r := some q) (env' := [(4, .ref q)]) X dL_changeAt_8 (by rw [hN]; decide) rfl ?_
      refine g_ldc (v := (-1000001)) X dL_changeAt_10 (qW_at 324 (by decide +kernel) rfl) ?_
      exact h_iret X C hr rfl dL_changeAt_12 ha hb (hR9 n hn)
    · rw [if_neg e1] at hcd
      by_cases e2 : e = 2
      · subst e2
        have hcd : some (-1000002 : Int32) = some cd := hcd
        cases hcd
        refine t_catch (e := 2) (hh := [(0, 7, 8, 16), (0, 7, 13, 19), (0, 7, 18, 36)]) (pre := [(0, 7, 8, 16)]) (suf := [(0, 7, 18, 36)]) X C.2.1 rfl (by decide) (by decide) (by decide) (qW_at 153 (by decide +kernel) rfl) (qN_at 169 (by decide +kernel) rfl) (fun z hz => by
          simp only [List.mem_cons, List.mem_nil_iff, or_false] at hz
          rcases hz with rfl
          · exact ⟨by decide, 1, by decide, by decide, (qW_at 301 (by decide +kernel) rfl)⟩) (fun q n a b hn ha hb => ?_) H locs ls rest ce q9 a9 b9 z9 hn9 hl9 hls9 hq9 hv9 hc9 ha9 hb9
        refine g_astore (r := some q) (env' := [(4, .ref q)]) X dL_changeAt_13 (by rw [hN]; decide) rfl ?_
        refine g_ldc (v := (-1000002)) X dL_changeAt_15 (qW_at 297 (by decide +kernel) rfl) ?_
        exact h_iret X C hr rfl dL_changeAt_17 ha hb (hR9 n hn)
      · rw [if_neg e2] at hcd
        by_cases e3 : e = 3
        · subst e3
          have hcd : some (-1000003 : Int32) = some cd := hcd
          cases hcd
          refine t_catch (e := 3) (hh := [(0, 7, 8, 16), (0, 7, 13, 19), (0, 7, 18, 36)]) (pre := [(0, 7, 8, 16), (0, 7, 13, 19)]) (suf := []) X C.2.1 rfl (by decide) (by decide) (by decide) (qW_at 328 (by decide +kernel) rfl) (qN_at 342 (by decide +kernel) rfl) (fun z hz => by
            simp only [List.mem_cons, List.mem_nil_iff, or_false] at hz
            rcases hz with rfl | rfl
            · exact ⟨by decide, 1, by decide, by decide, (qW_at 301 (by decide +kernel) rfl)⟩
            · exact ⟨by decide, 2, by decide, by decide, (qW_at 153 (by decide +kernel) rfl)⟩) (fun q n a b hn ha hb => ?_) H locs ls rest ce q9 a9 b9 z9 hn9 hl9 hls9 hq9 hv9 hc9 ha9 hb9
          refine g_astore (r := some q) (env' := [(4, .ref q)]) X dL_changeAt_18 (by rw [hN]; decide) rfl ?_
          refine g_ldc (v := (-1000003)) X dL_changeAt_20 (qW_at 363 (by decide +kernel) rfl) ?_
          exact h_iret X C hr rfl dL_changeAt_22 ha hb (hR9 n hn)
        · rw [if_neg e3] at hcd
          exact absurd hcd (by simp)
  refine t_al 0 X dL_changeAt_0 rfl rfl ?_
  refine g_iload_n 1 X dL_changeAt_1 rfl rfl ?_
  refine g_iload_n 2 X dL_changeAt_2 rfl rfl ?_
  refine g_iload_n 3 X dL_changeAt_3 rfl rfl ?_
  refine p_callV (st := []) (q := sv) (av := [.int p0, .int p1, .int p2]) (T := T9) X hTp htr rfl h1 (M_X6_changeAt sv p0 p1 p2) lk_X6_changeAt im_X6_changeAt se_X6_changeAt (qW_at 403 (by decide +kernel) rfl) rfl (by rw [hR]; exact ⟨Nat.le_of_ble_eq_true rfl, Nat.le_of_ble_eq_true rfl⟩) (by exact Nat.le_of_ble_eq_true rfl) (by rw [hR]; exact ⟨Nat.le_of_ble_eq_true rfl, Nat.le_of_ble_eq_true rfl⟩) dL_changeAt_4 (by rfl) ?_
  unfold qwp
  rw [hx]
  cases r with
  | error e => exact her e rfl
  | ok v =>
    show GG k _ (.int v :: []) m1 _ _ _
    exact h_iret X C hr rfl dL_changeAt_7 (by rw [hR]; exact Nat.le_of_ble_eq_true rfl) (by rw [hR]; exact Nat.le_of_ble_eq_true rfl) ((hok v rfl).2)