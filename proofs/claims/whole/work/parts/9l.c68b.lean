/-! the law's own methods, on -/
theorem dL_lineChar_0 : decode cL_lineChar 0 = .ok (.aload_n 3, 1) := by decide +kernel
theorem dL_lineChar_1 : decode cL_lineChar 1 = .ok (.iconst 0, 1) := by decide +kernel
theorem dL_lineChar_2 : decode cL_lineChar 2 = .ok (.aload_n 0, 1) := by decide +kernel
theorem dL_lineChar_3 : decode cL_lineChar 3 = .ok (.iload_n 1, 1) := by decide +kernel
theorem dL_lineChar_4 : decode cL_lineChar 4 = .ok (.iload_n 2, 1) := by decide +kernel
theorem dL_lineChar_5 : decode cL_lineChar 5 = .ok (.invokevirtual 88, 3) := by decide +kernel
theorem dL_lineChar_8 : decode cL_lineChar 8 = .ok (.i2l, 1) := by decide +kernel
theorem dL_lineChar_9 : decode cL_lineChar 9 = .ok (.lastore, 1) := by decide +kernel
theorem dL_lineChar_10 : decode cL_lineChar 10 = .ok (.goto 7, 3) := by decide +kernel
theorem dL_lineChar_13 : decode cL_lineChar 13 = .ok (.astore 4, 2) := by decide +kernel
theorem dL_lineChar_15 : decode cL_lineChar 15 = .ok (.iconst 1, 1) := by decide +kernel
theorem dL_lineChar_16 : decode cL_lineChar 16 = .ok (.ireturn, 1) := by decide +kernel
theorem dL_lineChar_17 : decode cL_lineChar 17 = .ok (.iconst 0, 1) := by decide +kernel
theorem dL_lineChar_18 : decode cL_lineChar 18 = .ok (.ireturn, 1) := by decide +kernel
theorem lkh_lineChar : LKH yL_lineChar cL_lineChar 5 (some .int) [(0, 10, 13, 13)] 4 := ⟨(qW_at 1056 (by decide +kernel) rfl), (qW_at 74 (by decide +kernel) rfl), by decide, by decide, by decide +kernel⟩
theorem stl_lineChar : Cond.static yL_lineChar ∈ qW := (qW_at 1055 (by decide +kernel) rfl)
set_option maxRecDepth 100000 in
set_option maxHeartbeats 1600000 in
theorem E_L_lineChar (sv : Nat) (G : GM) (S : MS) (t kk pl : Int) : MEH yL_lineChar cL_lineChar 5 (some .int) [(0, 10, 13, 13)] 8 178 14 372 (fun DA => [.ref sv, .int (I kk), .int (I pl), .ref (sv + 62)]) (fun DA mm R => CR sv G S mm ∧ SI t S ∧ t ≤ 600 ∧ (-2147483648 ≤ kk ∧ kk < 2147483648) ∧ (-2147483648 ≤ pl ∧ pl < 2147483648) ∧ qty mm (sv + 62) = (3, 0, 1) ∧ ∀ m', GROW mm m' → (if (gK S kk && decide (0 ≤ pl ∧ pl < (lineL S kk).length)) = true then R (.ok (some (.int (I 0)))) (sal m' (sv + 62) 0 (I ((lineL S kk).getD pl.toNat 0)).toInt64) else ∀ n, qtop m' ≤ n → R (.ok (some (.int (I 1)))) (stop m' n))) := by
  refine MEH_of (env0 := fun DA => [(0, .ref sv), (1, .int (I kk)), (2, .int (I pl)), (3, .ref (sv + 62))]) (by decide) (fun DA => by exact Nat.le_of_ble_eq_true rfl) (fun DA => by rfl) (fun k mm R X C hR hN hr hname hP => ?_)
  have X : CX k cL_lineChar RL := X
  have htr := C.2.2.2.1
  obtain ⟨hC, hs, ht, hk, hpl, h62, h⟩ := hP
  let T9 : Nat → QM → Prop := fun e m' => e = 1 ∧ ∀ n, qtop m' ≤ n → R (.ok (some (.int (I 1)))) (stop m' n)
  have hTp : THp k 5 T9 := by
    intro e mm9 H locs ls rest ce q9 a9 b9 hT9 z9 hn9 hl9 hls9 hq9 hv9 hc9 ha9 hb9
    obtain ⟨rfl, hR9⟩ := hT9
    refine t_catch (e := 1) (hh := [(0, 10, 13, 13)]) (pre := []) (suf := []) X C.2.1 rfl (by decide) (by decide) (by decide) (qW_at 195 (by decide +kernel) rfl) (qN_at 207 (by decide +kernel) rfl) (fun z hz => absurd hz List.not_mem_nil) (fun q n a b hn ha hb => ?_) H locs ls rest ce q9 a9 b9 z9 hn9 hl9 hls9 hq9 hv9 hc9 ha9 hb9
    refine g_astore (r := some q) (env' := [(4, .ref q)]) X dL_lineChar_13 (by rw [hN]; decide) rfl ?_
    refine g_iconst (v := I 1) X dL_lineChar_15 rfl ?_
    exact h_iret X C hr rfl dL_lineChar_16 ha hb (hR9 n hn)
  refine t_al 3 X dL_lineChar_0 rfl rfl ?_
  refine g_iconst (v := I 0) X dL_lineChar_1 rfl ?_
  refine t_al 0 X dL_lineChar_2 rfl rfl ?_
  refine g_iload_n 1 X dL_lineChar_3 rfl rfl ?_
  refine g_iload_n 2 X dL_lineChar_4 rfl rfl ?_
  let R1 : RX := (fun r m' => GROW mm m' ∧ (((gK S kk && decide (0 ≤ pl ∧ pl < (lineL S kk).length)) = true ∧ r = .ok (some (.int (I ((lineL S kk).getD pl.toNat 0))))) ∨ (¬ (gK S kk && decide (0 ≤ pl ∧ pl < (lineL S kk).length)) = true ∧ r = .error 1)))
  have hPE : (if gK S kk = true then ∀ m', GROW mm m' → if decide (0 ≤ pl ∧ pl < (lineL S kk).length) = true then R1 (.ok (some (.int (I ((lineL S kk).getD pl.toNat 0))))) m' else R1 (.error 1) m' else R1 (.error 1) mm) := by
    by_cases g : gK S kk = true
    · rw [if_pos g]
      intro m' q
      by_cases g2 : decide (0 ≤ pl ∧ pl < (lineL S kk).length) = true
      · rw [if_pos g2]; exact ⟨q, Or.inl ⟨by rw [g, g2]; rfl, rfl⟩⟩
      · rw [if_neg g2]; exact ⟨q, Or.inr ⟨by rw [g, Bool.eq_false_iff.mpr g2]; decide, rfl⟩⟩
    · rw [if_neg g]; exact ⟨GROW.refl mm, Or.inr ⟨by rw [Bool.eq_false_iff.mpr g, Bool.false_and]; decide, rfl⟩⟩
  refine p_callE R1 (st := [.int (I 0), .ref (sv + 62)]) (q := sv) (as := [.int (I kk), .int (I pl)]) (T := T9) X hTp htr rfl hC.cf.ty (E_X6_lineChar sv G S t kk pl) lk_X6_lineChar im_X6_lineChar (qW_at 1059 (by decide +kernel) rfl) (qW_at 1057 (by decide +kernel) rfl) rfl rfl (by rw [hR]; exact ⟨Nat.le_of_ble_eq_true rfl, Nat.le_of_ble_eq_true rfl⟩) (by exact Nat.le_of_ble_eq_true rfl) (by rw [hR]; exact ⟨Nat.le_of_ble_eq_true rfl, Nat.le_of_ble_eq_true rfl⟩) dL_lineChar_5 (by rfl) (⟨hC, hs, ht, hk, hpl, hPE⟩) (fun e m1 q => ?_) (fun v m1 q => ?_)
  · obtain ⟨hg, q⟩ := q
    rcases q with ⟨_, q⟩ | ⟨g, q⟩
    · cases q
    · cases q; have h := h m1 hg; rw [if_neg g] at h; exact ⟨rfl, h⟩
  · obtain ⟨hg, q⟩ := q
    rcases q with ⟨g, q⟩ | ⟨_, q⟩
    case inr => cases q
    cases q
    have hR1 := h m1 hg
    rw [if_pos g] at hR1
    have h62' : qty m1 (sv + 62) = (3, 0, 1) := (hg.ty (sv + 62) (hC.lt62 h62)).trans h62
    show GG k _ (.int (I ((lineL S kk).getD pl.toNat 0)) :: .int (I 0) :: .ref (sv + 62) :: []) m1 _ _ _
    refine g_i2l X dL_lineChar_8 ?_
    refine g_last (q := sv + 62) (n := 1) X h62' (by intro q; rcases q with q | q <;> exact absurd q (by decide)) dL_lineChar_9 ?_
    rw [show (I 0).toNatClampNeg = 0 from by decide]
    refine g_goto (tgt := 17) X dL_lineChar_10 (by decide) ?_
    refine g_iconst (v := I 0) X dL_lineChar_17 rfl ?_
    exact h_iret X C hr rfl dL_lineChar_18 (by rw [hR]; exact Nat.le_of_ble_eq_true rfl) (by rw [hR]; exact Nat.le_of_ble_eq_true rfl) (hR1)
theorem dL_isThere_0 : decode cL_isThere 0 = .ok (.aload_n 3, 1) := by decide +kernel
theorem dL_isThere_1 : decode cL_isThere 1 = .ok (.iconst 0, 1) := by decide +kernel
theorem dL_isThere_2 : decode cL_isThere 2 = .ok (.aload_n 0, 1) := by decide +kernel
theorem dL_isThere_3 : decode cL_isThere 3 = .ok (.iload_n 1, 1) := by decide +kernel
theorem dL_isThere_4 : decode cL_isThere 4 = .ok (.iload_n 2, 1) := by decide +kernel
theorem dL_isThere_5 : decode cL_isThere 5 = .ok (.invokevirtual 92, 3) := by decide +kernel
theorem dL_isThere_8 : decode cL_isThere 8 = .ok (.ifCond .eq 7, 3) := by decide +kernel
theorem dL_isThere_11 : decode cL_isThere 11 = .ok (.lconst 1, 1) := by decide +kernel
theorem dL_isThere_12 : decode cL_isThere 12 = .ok (.goto 4, 3) := by decide +kernel
theorem dL_isThere_15 : decode cL_isThere 15 = .ok (.lconst 0, 1) := by decide +kernel
theorem dL_isThere_16 : decode cL_isThere 16 = .ok (.lastore, 1) := by decide +kernel
theorem dL_isThere_17 : decode cL_isThere 17 = .ok (.goto 7, 3) := by decide +kernel
theorem dL_isThere_20 : decode cL_isThere 20 = .ok (.astore 4, 2) := by decide +kernel
theorem dL_isThere_22 : decode cL_isThere 22 = .ok (.iconst 1, 1) := by decide +kernel
theorem dL_isThere_23 : decode cL_isThere 23 = .ok (.ireturn, 1) := by decide +kernel
theorem dL_isThere_24 : decode cL_isThere 24 = .ok (.iconst 0, 1) := by decide +kernel
theorem dL_isThere_25 : decode cL_isThere 25 = .ok (.ireturn, 1) := by decide +kernel
theorem lkh_isThere : LKH yL_isThere cL_isThere 5 (some .int) [(0, 17, 20, 13)] 4 := ⟨(qW_at 1078 (by decide +kernel) rfl), (qW_at 74 (by decide +kernel) rfl), by decide, by decide, by decide +kernel⟩
theorem stl_isThere : Cond.static yL_isThere ∈ qW := (qW_at 1077 (by decide +kernel) rfl)
set_option maxRecDepth 100000 in
set_option maxHeartbeats 1600000 in
theorem E_L_isThere (sv : Nat) (p0 p1 : Int32) : MEH yL_isThere cL_isThere 5 (some .int) [(0, 17, 20, 13)] 8 124 2 12 (fun DA => [.ref sv, .int p0, .int p1, .ref (sv + 62)]) (fun DA mm R => qty mm sv = (1, 7, 0) ∧ qty mm (sv + 62) = (3, 0, 1) ∧ ∃ r m1, F_X6_isThere sv p0 p1 mm = some (r, m1) ∧ KP sv mm m1 ∧ (∀ v, r = .ok v → (v = 0 ∨ v = 1) ∧ R (.ok (some (.int (I 0)))) (sal m1 (sv + 62) 0 v.toInt64)) ∧ (∀ e0, r = .error e0 → ∃ cd, mpD e0 = some cd ∧ ∀ n, qtop m1 ≤ n → R (.ok (some (.int (I cd)))) (stop m1 n))) := by
  refine MEH_of (env0 := fun DA => [(0, .ref sv), (1, .int p0), (2, .int p1), (3, .ref (sv + 62))]) (by decide) (fun DA => by exact Nat.le_of_ble_eq_true rfl) (fun DA => by rfl) (fun k mm R X C hR hN hr hname hP => ?_)
  have X : CX k cL_isThere RL := X
  have htr := C.2.2.2.1
  obtain ⟨h1, h62, r, m1, hx, hk, hok, her⟩ := hP
  let T9 : Nat → QM → Prop := fun e m' => ∃ cd, mpD e = some cd ∧ ∀ n, qtop m' ≤ n → R (.ok (some (.int (I cd)))) (stop m' n)
  have hTp : THp k 5 T9 := by
    intro e mm9 H locs ls rest ce q9 a9 b9 hT9 z9 hn9 hl9 hls9 hq9 hv9 hc9 ha9 hb9
    obtain ⟨cd, hcd, hR9⟩ := hT9
    unfold mpD at hcd
    by_cases e1 : e = 1
    · subst e1
      have hcd : some (1 : Int) = some cd := hcd
      cases hcd
      refine t_catch (e := 1) (hh := [(0, 17, 20, 13)]) (pre := []) (suf := []) X C.2.1 rfl (by decide) (by decide) (by decide) (qW_at 195 (by decide +kernel) rfl) (qN_at 207 (by decide +kernel) rfl) (fun z hz => absurd hz List.not_mem_nil) (fun q n a b hn ha hb => ?_) H locs ls rest ce q9 a9 b9 z9 hn9 hl9 hls9 hq9 hv9 hc9 ha9 hb9
      refine g_astore (r := some q) (env' := [(4, .ref q)]) X dL_isThere_20 (by rw [hN]; decide) rfl ?_
      refine g_iconst (v := I 1) X dL_isThere_22 rfl ?_
      exact h_iret X C hr rfl dL_isThere_23 ha hb (hR9 n hn)
    · rw [if_neg e1] at hcd
      exact absurd hcd (by simp)
  have h62' := hk.ty62 h62
  refine t_al 3 X dL_isThere_0 rfl rfl ?_
  refine g_iconst (v := I 0) X dL_isThere_1 rfl ?_
  refine t_al 0 X dL_isThere_2 rfl rfl ?_
  refine g_iload_n 1 X dL_isThere_3 rfl rfl ?_
  refine g_iload_n 2 X dL_isThere_4 rfl rfl ?_
  refine p_callV (st := [.int (I 0), .ref (sv + 62)]) (q := sv) (av := [.int p0, .int p1]) (T := T9) X hTp htr rfl h1 (M_X6_isThere sv p0 p1) lk_X6_isThere im_X6_isThere se_X6_isThere (qW_at 1079 (by decide +kernel) rfl) rfl (by rw [hR]; exact ⟨Nat.le_of_ble_eq_true rfl, Nat.le_of_ble_eq_true rfl⟩) (by exact Nat.le_of_ble_eq_true rfl) (by rw [hR]; exact ⟨Nat.le_of_ble_eq_true rfl, Nat.le_of_ble_eq_true rfl⟩) dL_isThere_5 (by rfl) ?_
  unfold qwp
  rw [hx]
  cases r with
  | error e => exact her e rfl
  | ok v =>
    show GG k _ (.int v :: .int (I 0) :: .ref (sv + 62) :: []) m1 _ _ _
    rcases (hok v rfl).1 with rfl | rfl
    · refine t_eqT (tgt := 15) X dL_isThere_8 (by decide) rfl ?_
      refine g_lconst (v := (0 : Int32).toInt64) X dL_isThere_15 (by decide) ?_
      refine g_last (q := sv + 62) (n := 1) X h62' (by intro q; rcases q with q | q <;> exact absurd q (by decide)) dL_isThere_16 ?_
      rw [show (I 0).toNatClampNeg = 0 from by decide]
      refine g_goto (tgt := 24) X dL_isThere_17 (by decide) ?_
      refine g_iconst (v := I 0) X dL_isThere_24 rfl ?_
      exact h_iret X C hr rfl dL_isThere_25 (by rw [hR]; exact Nat.le_of_ble_eq_true rfl) (by rw [hR]; exact Nat.le_of_ble_eq_true rfl) ((hok _ rfl).2)
    · refine t_eqF 15 X dL_isThere_8 (by decide) (by decide) ?_
      refine g_lconst (v := (1 : Int32).toInt64) X dL_isThere_11 (by decide) ?_
      refine g_goto (tgt := 16) X dL_isThere_12 (by decide) ?_
      refine g_last (q := sv + 62) (n := 1) X h62' (by intro q; rcases q with q | q <;> exact absurd q (by decide)) dL_isThere_16 ?_
      rw [show (I 0).toNatClampNeg = 0 from by decide]
      refine g_goto (tgt := 24) X dL_isThere_17 (by decide) ?_
      refine g_iconst (v := I 0) X dL_isThere_24 rfl ?_
      exact h_iret X C hr rfl dL_isThere_25 (by rw [hR]; exact Nat.le_of_ble_eq_true rfl) (by rw [hR]; exact Nat.le_of_ble_eq_true rfl) ((hok _ rfl).2)
theorem dL_sequence_0 : decode cL_sequence 0 = .ok (.aload_n 3, 1) := by decide +kernel
theorem dL_sequence_1 : decode cL_sequence 1 = .ok (.iconst 0, 1) := by decide +kernel
theorem dL_sequence_2 : decode cL_sequence 2 = .ok (.aload_n 0, 1) := by decide +kernel
theorem dL_sequence_3 : decode cL_sequence 3 = .ok (.iload_n 1, 1) := by decide +kernel
theorem dL_sequence_4 : decode cL_sequence 4 = .ok (.iload_n 2, 1) := by decide +kernel
theorem dL_sequence_5 : decode cL_sequence 5 = .ok (.invokevirtual 96, 3) := by decide +kernel
theorem dL_sequence_8 : decode cL_sequence 8 = .ok (.i2l, 1) := by decide +kernel
theorem dL_sequence_9 : decode cL_sequence 9 = .ok (.lastore, 1) := by decide +kernel
theorem dL_sequence_10 : decode cL_sequence 10 = .ok (.goto 7, 3) := by decide +kernel
theorem dL_sequence_13 : decode cL_sequence 13 = .ok (.astore 4, 2) := by decide +kernel
theorem dL_sequence_15 : decode cL_sequence 15 = .ok (.iconst 1, 1) := by decide +kernel
theorem dL_sequence_16 : decode cL_sequence 16 = .ok (.ireturn, 1) := by decide +kernel
theorem dL_sequence_17 : decode cL_sequence 17 = .ok (.iconst 0, 1) := by decide +kernel
theorem dL_sequence_18 : decode cL_sequence 18 = .ok (.ireturn, 1) := by decide +kernel
theorem lkh_sequence : LKH yL_sequence cL_sequence 5 (some .int) [(0, 10, 13, 13)] 4 := ⟨(qW_at 1085 (by decide +kernel) rfl), (qW_at 74 (by decide +kernel) rfl), by decide, by decide, by decide +kernel⟩
theorem stl_sequence : Cond.static yL_sequence ∈ qW := (qW_at 1084 (by decide +kernel) rfl)
set_option maxRecDepth 100000 in
set_option maxHeartbeats 1600000 in
theorem E_L_sequence (sv : Nat) (p0 p1 : Int32) : MEH yL_sequence cL_sequence 5 (some .int) [(0, 10, 13, 13)] 8 125 2 12 (fun DA => [.ref sv, .int p0, .int p1, .ref (sv + 62)]) (fun DA mm R => qty mm sv = (1, 7, 0) ∧ qty mm (sv + 62) = (3, 0, 1) ∧ ∃ r m1, F_X6_sequence sv p0 p1 mm = some (r, m1) ∧ KP sv mm m1 ∧ (∀ v, r = .ok v → True ∧ R (.ok (some (.int (I 0)))) (sal m1 (sv + 62) 0 v.toInt64)) ∧ (∀ e0, r = .error e0 → ∃ cd, mpD e0 = some cd ∧ ∀ n, qtop m1 ≤ n → R (.ok (some (.int (I cd)))) (stop m1 n))) := by
  refine MEH_of (env0 := fun DA => [(0, .ref sv), (1, .int p0), (2, .int p1), (3, .ref (sv + 62))]) (by decide) (fun DA => by exact Nat.le_of_ble_eq_true rfl) (fun DA => by rfl) (fun k mm R X C hR hN hr hname hP => ?_)
  have X : CX k cL_sequence RL := X
  have htr := C.2.2.2.1
  obtain ⟨h1, h62, r, m1, hx, hk, hok, her⟩ := hP
  let T9 : Nat → QM → Prop := fun e m' => ∃ cd, mpD e = some cd ∧ ∀ n, qtop m' ≤ n → R (.ok (some (.int (I cd)))) (stop m' n)
  have hTp : THp k 5 T9 := by
    intro e mm9 H locs ls rest ce q9 a9 b9 hT9 z9 hn9 hl9 hls9 hq9 hv9 hc9 ha9 hb9
    obtain ⟨cd, hcd, hR9⟩ := hT9
    unfold mpD at hcd
    by_cases e1 : e = 1
    · subst e1
      have hcd : some (1 : Int) = some cd := hcd
      cases hcd
      refine t_catch (e := 1) (hh := [(0, 10, 13, 13)]) (pre := []) (suf := []) X C.2.1 rfl (by decide) (by decide) (by decide) (qW_at 195 (by decide +kernel) rfl) (qN_at 207 (by decide +kernel) rfl) (fun z hz => absurd hz List.not_mem_nil) (fun q n a b hn ha hb => ?_) H locs ls rest ce q9 a9 b9 z9 hn9 hl9 hls9 hq9 hv9 hc9 ha9 hb9
      refine g_astore (r := some q) (env' := [(4, .ref q)]) X dL_sequence_13 (by rw [hN]; decide) rfl ?_
      refine g_iconst (v := I 1) X dL_sequence_15 rfl ?_
      exact h_iret X C hr rfl dL_sequence_16 ha hb (hR9 n hn)
    · rw [if_neg e1] at hcd
      exact absurd hcd (by simp)
  have h62' := hk.ty62 h62
  refine t_al 3 X dL_sequence_0 rfl rfl ?_
  refine g_iconst (v := I 0) X dL_sequence_1 rfl ?_
  refine t_al 0 X dL_sequence_2 rfl rfl ?_
  refine g_iload_n 1 X dL_sequence_3 rfl rfl ?_
  refine g_iload_n 2 X dL_sequence_4 rfl rfl ?_
  refine p_callV (st := [.int (I 0), .ref (sv + 62)]) (q := sv) (av := [.int p0, .int p1]) (T := T9) X hTp htr rfl h1 (M_X6_sequence sv p0 p1) lk_X6_sequence im_X6_sequence se_X6_sequence (qW_at 1086 (by decide +kernel) rfl) rfl (by rw [hR]; exact ⟨Nat.le_of_ble_eq_true rfl, Nat.le_of_ble_eq_true rfl⟩) (by exact Nat.le_of_ble_eq_true rfl) (by rw [hR]; exact ⟨Nat.le_of_ble_eq_true rfl, Nat.le_of_ble_eq_true rfl⟩) dL_sequence_5 (by rfl) ?_
  unfold qwp
  rw [hx]
  cases r with
  | error e => exact her e rfl
  | ok v =>
    show GG k _ (.int v :: .int (I 0) :: .ref (sv + 62) :: []) m1 _ _ _
    refine g_i2l X dL_sequence_8 ?_
    refine g_last (q := sv + 62) (n := 1) X h62' (by intro q; rcases q with q | q <;> exact absurd q (by decide)) dL_sequence_9 ?_
    rw [show (I 0).toNatClampNeg = 0 from by decide]
    refine g_goto (tgt := 17) X dL_sequence_10 (by decide) ?_
    refine g_iconst (v := I 0) X dL_sequence_17 rfl ?_
    exact h_iret X C hr rfl dL_sequence_18 (by rw [hR]; exact Nat.le_of_ble_eq_true rfl) (by rw [hR]; exact Nat.le_of_ble_eq_true rfl) ((hok v rfl).2)
theorem dL_dates_0 : decode cL_dates 0 = .ok (.aload_n 3, 1) := by decide +kernel
theorem dL_dates_1 : decode cL_dates 1 = .ok (.iconst 0, 1) := by decide +kernel
theorem dL_dates_2 : decode cL_dates 2 = .ok (.aload_n 0, 1) := by decide +kernel
theorem dL_dates_3 : decode cL_dates 3 = .ok (.iload_n 1, 1) := by decide +kernel
theorem dL_dates_4 : decode cL_dates 4 = .ok (.iload_n 2, 1) := by decide +kernel
theorem dL_dates_5 : decode cL_dates 5 = .ok (.invokevirtual 99, 3) := by decide +kernel
theorem dL_dates_8 : decode cL_dates 8 = .ok (.i2l, 1) := by decide +kernel
theorem dL_dates_9 : decode cL_dates 9 = .ok (.lastore, 1) := by decide +kernel
theorem dL_dates_10 : decode cL_dates 10 = .ok (.goto 7, 3) := by decide +kernel
theorem dL_dates_13 : decode cL_dates 13 = .ok (.astore 4, 2) := by decide +kernel
theorem dL_dates_15 : decode cL_dates 15 = .ok (.iconst 1, 1) := by decide +kernel
theorem dL_dates_16 : decode cL_dates 16 = .ok (.ireturn, 1) := by decide +kernel
theorem dL_dates_17 : decode cL_dates 17 = .ok (.iconst 0, 1) := by decide +kernel
theorem dL_dates_18 : decode cL_dates 18 = .ok (.ireturn, 1) := by decide +kernel
theorem lkh_dates : LKH yL_dates cL_dates 5 (some .int) [(0, 10, 13, 13)] 4 := ⟨(qW_at 1092 (by decide +kernel) rfl), (qW_at 74 (by decide +kernel) rfl), by decide, by decide, by decide +kernel⟩
theorem stl_dates : Cond.static yL_dates ∈ qW := (qW_at 1091 (by decide +kernel) rfl)
set_option maxRecDepth 100000 in
set_option maxHeartbeats 1600000 in
theorem E_L_dates (sv : Nat) (p0 p1 : Int32) : MEH yL_dates cL_dates 5 (some .int) [(0, 10, 13, 13)] 8 125 2 12 (fun DA => [.ref sv, .int p0, .int p1, .ref (sv + 62)]) (fun DA mm R => qty mm sv = (1, 7, 0) ∧ qty mm (sv + 62) = (3, 0, 1) ∧ ∃ r m1, F_X6_dates sv p0 p1 mm = some (r, m1) ∧ KP sv mm m1 ∧ (∀ v, r = .ok v → True ∧ R (.ok (some (.int (I 0)))) (sal m1 (sv + 62) 0 v.toInt64)) ∧ (∀ e0, r = .error e0 → ∃ cd, mpD e0 = some cd ∧ ∀ n, qtop m1 ≤ n → R (.ok (some (.int (I cd)))) (stop m1 n))) := by
  refine MEH_of (env0 := fun DA => [(0, .ref sv), (1, .int p0), (2, .int p1), (3, .ref (sv + 62))]) (by decide) (fun DA => by exact Nat.le_of_ble_eq_true rfl) (fun DA => by rfl) (fun k mm R X C hR hN hr hname hP => ?_)
  have X : CX k cL_dates RL := X
  have htr := C.2.2.2.1
  obtain ⟨h1, h62, r, m1, hx, hk, hok, her⟩ := hP
  let T9 : Nat → QM → Prop := fun e m' => ∃ cd, mpD e = some cd ∧ ∀ n, qtop m' ≤ n → R (.ok (some (.int (I cd)))) (stop m' n)
  have hTp : THp k 5 T9 := by
    intro e mm9 H locs ls rest ce q9 a9 b9 hT9 z9 hn9 hl9 hls9 hq9 hv9 hc9 ha9 hb9
    obtain ⟨cd, hcd, hR9⟩ := hT9
    unfold mpD at hcd
    by_cases e1 : e = 1
    · subst e1
      have hcd : some (1 : Int) = some cd := hcd
      cases hcd
      refine t_catch (e := 1) (hh := [(0, 10, 13, 13)]) (pre := []) (suf := []) X C.2.1 rfl (by decide) (by decide) (by decide) (qW_at 195 (by decide +kernel) rfl) (qN_at 207 (by decide +kernel) rfl) (fun z hz => absurd hz List.not_mem_nil) (fun q n a b hn ha hb => ?_) H locs ls rest ce q9 a9 b9 z9 hn9 hl9 hls9 hq9 hv9 hc9 ha9 hb9
      refine g_astore (r := some q) (env' := [(4, .ref q)]) X dL_dates_13 (by rw [hN]; decide) rfl ?_
      refine g_iconst (v := I 1) X dL_dates_15 rfl ?_
      exact h_iret X C hr rfl dL_dates_16 ha hb (hR9 n hn)
    · rw [if_neg e1] at hcd
      exact absurd hcd (by simp)
  have h62' := hk.ty62 h62
  refine t_al 3 X dL_dates_0 rfl rfl ?_
  refine g_iconst (v := I 0) X dL_dates_1 rfl ?_
  refine t_al 0 X dL_dates_2 rfl rfl ?_
  refine g_iload_n 1 X dL_dates_3 rfl rfl ?_
  refine g_iload_n 2 X dL_dates_4 rfl rfl ?_
  refine p_callV (st := [.int (I 0), .ref (sv + 62)]) (q := sv) (av := [.int p0, .int p1]) (T := T9) X hTp htr rfl h1 (M_X6_dates sv p0 p1) lk_X6_dates im_X6_dates se_X6_dates (qW_at 1093 (by decide +kernel) rfl) rfl (by rw [hR]; exact ⟨Nat.le_of_ble_eq_true rfl, Nat.le_of_ble_eq_true rfl⟩) (by exact Nat.le_of_ble_eq_true rfl) (by rw [hR]; exact ⟨Nat.le_of_ble_eq_true rfl, Nat.le_of_ble_eq_true rfl⟩) dL_dates_5 (by rfl) ?_
  unfold qwp
  rw [hx]
  cases r with
  | error e => exact her e rfl
  | ok v =>
    show GG k _ (.int v :: .int (I 0) :: .ref (sv + 62) :: []) m1 _ _ _
    refine g_i2l X dL_dates_8 ?_
    refine g_last (q := sv + 62) (n := 1) X h62' (by intro q; rcases q with q | q <;> exact absurd q (by decide)) dL_dates_9 ?_
    rw [show (I 0).toNatClampNeg = 0 from by decide]
    refine g_goto (tgt := 17) X dL_dates_10 (by decide) ?_
    refine g_iconst (v := I 0) X dL_dates_17 rfl ?_
    exact h_iret X C hr rfl dL_dates_18 (by rw [hR]; exact Nat.le_of_ble_eq_true rfl) (by rw [hR]; exact Nat.le_of_ble_eq_true rfl) ((hok v rfl).2)
theorem dL_dateAt_0 : decode cL_dateAt 0 = .ok (.aload 4, 2) := by decide +kernel
theorem dL_dateAt_2 : decode cL_dateAt 2 = .ok (.iconst 0, 1) := by decide +kernel
theorem dL_dateAt_3 : decode cL_dateAt 3 = .ok (.aload_n 0, 1) := by decide +kernel
theorem dL_dateAt_4 : decode cL_dateAt 4 = .ok (.iload_n 1, 1) := by decide +kernel
theorem dL_dateAt_5 : decode cL_dateAt 5 = .ok (.iload_n 2, 1) := by decide +kernel
theorem dL_dateAt_6 : decode cL_dateAt 6 = .ok (.iload_n 3, 1) := by decide +kernel
theorem dL_dateAt_7 : decode cL_dateAt 7 = .ok (.invokevirtual 102, 3) := by decide +kernel
theorem dL_dateAt_10 : decode cL_dateAt 10 = .ok (.i2l, 1) := by decide +kernel
theorem dL_dateAt_11 : decode cL_dateAt 11 = .ok (.lastore, 1) := by decide +kernel
theorem dL_dateAt_12 : decode cL_dateAt 12 = .ok (.goto 7, 3) := by decide +kernel
theorem dL_dateAt_15 : decode cL_dateAt 15 = .ok (.astore 5, 2) := by decide +kernel
theorem dL_dateAt_17 : decode cL_dateAt 17 = .ok (.iconst 1, 1) := by decide +kernel
theorem dL_dateAt_18 : decode cL_dateAt 18 = .ok (.ireturn, 1) := by decide +kernel
theorem dL_dateAt_19 : decode cL_dateAt 19 = .ok (.iconst 0, 1) := by decide +kernel
theorem dL_dateAt_20 : decode cL_dateAt 20 = .ok (.ireturn, 1) := by decide +kernel
theorem lkh_dateAt : LKH yL_dateAt cL_dateAt 6 (some .int) [(0, 12, 15, 13)] 5 := ⟨(qW_at 1099 (by decide +kernel) rfl), (qW_at 74 (by decide +kernel) rfl), by decide, by decide, by decide +kernel⟩
theorem stl_dateAt : Cond.static yL_dateAt ∈ qW := (qW_at 1098 (by decide +kernel) rfl)
set_option maxRecDepth 100000 in
set_option maxHeartbeats 1600000 in
theorem E_L_dateAt (sv : Nat) (p0 p1 p2 : Int32) : MEH yL_dateAt cL_dateAt 6 (some .int) [(0, 12, 15, 13)] 8 126 3 18 (fun DA => [.ref sv, .int p0, .int p1, .int p2, .ref (sv + 62)]) (fun DA mm R => qty mm sv = (1, 7, 0) ∧ qty mm (sv + 62) = (3, 0, 1) ∧ ∃ r m1, F_X6_dateAt sv p0 p1 p2 mm = some (r, m1) ∧ KP sv mm m1 ∧ (∀ v, r = .ok v → True ∧ R (.ok (some (.int (I 0)))) (sal m1 (sv + 62) 0 v.toInt64)) ∧ (∀ e0, r = .error e0 → ∃ cd, mpD e0 = some cd ∧ ∀ n, qtop m1 ≤ n → R (.ok (some (.int (I cd)))) (stop m1 n))) := by
  refine MEH_of (env0 := fun DA => [(0, .ref sv), (1, .int p0), (2, .int p1), (3, .int p2), (4, .ref (sv + 62))]) (by decide) (fun DA => by exact Nat.le_of_ble_eq_true rfl) (fun DA => by rfl) (fun k mm R X C hR hN hr hname hP => ?_)
  have X : CX k cL_dateAt RL := X
  have htr := C.2.2.2.1
  obtain ⟨h1, h62, r, m1, hx, hk, hok, her⟩ := hP
  let T9 : Nat → QM → Prop := fun e m' => ∃ cd, mpD e = some cd ∧ ∀ n, qtop m' ≤ n → R (.ok (some (.int (I cd)))) (stop m' n)
  have hTp : THp k 7 T9 := by
    intro e mm9 H locs ls rest ce q9 a9 b9 hT9 z9 hn9 hl9 hls9 hq9 hv9 hc9 ha9 hb9
    obtain ⟨cd, hcd, hR9⟩ := hT9
    unfold mpD at hcd
    by_cases e1 : e = 1
    · subst e1
      have hcd : some (1 : Int) = some cd := hcd
      cases hcd
      refine t_catch (e := 1) (hh := [(0, 12, 15, 13)]) (pre := []) (suf := []) X C.2.1 rfl (by decide) (by decide) (by decide) (qW_at 195 (by decide +kernel) rfl) (qN_at 207 (by decide +kernel) rfl) (fun z hz => absurd hz List.not_mem_nil) (fun q n a b hn ha hb => ?_) H locs ls rest ce q9 a9 b9 z9 hn9 hl9 hls9 hq9 hv9 hc9 ha9 hb9
      refine g_astore (r := some q) (env' := [(5, .ref q)]) X dL_dateAt_15 (by rw [hN]; decide) rfl ?_
      refine g_iconst (v := I 1) X dL_dateAt_17 rfl ?_
      exact h_iret X C hr rfl dL_dateAt_18 ha hb (hR9 n hn)
    · rw [if_neg e1] at hcd
      exact absurd hcd (by simp)
  have h62' := hk.ty62 h62
  refine g_aload (r := some (sv + 62)) 4 X dL_dateAt_0 rfl ?_
  refine g_iconst (v := I 0) X dL_dateAt_2 rfl ?_
  refine t_al 0 X dL_dateAt_3 rfl rfl ?_
  refine g_iload_n 1 X dL_dateAt_4 rfl rfl ?_
  refine g_iload_n 2 X dL_dateAt_5 rfl rfl ?_
  refine g_iload_n 3 X dL_dateAt_6 rfl rfl ?_
  refine p_callV (st := [.int (I 0), .ref (sv + 62)]) (q := sv) (av := [.int p0, .int p1, .int p2]) (T := T9) X hTp htr rfl h1 (M_X6_dateAt sv p0 p1 p2) lk_X6_dateAt im_X6_dateAt se_X6_dateAt (qW_at 1100 (by decide +kernel) rfl) rfl (by rw [hR]; exact ⟨Nat.le_of_ble_eq_true rfl, Nat.le_of_ble_eq_true rfl⟩) (by exact Nat.le_of_ble_eq_true rfl) (by rw [hR]; exact ⟨Nat.le_of_ble_eq_true rfl, Nat.le_of_ble_eq_true rfl⟩) dL_dateAt_7 (by rfl) ?_
  unfold qwp
  rw [hx]
  cases r with
  | error e => exact her e rfl
  | ok v =>
    show GG k _ (.int v :: .int (I 0) :: .ref (sv + 62) :: []) m1 _ _ _
    refine g_i2l X dL_dateAt_10 ?_
    refine g_last (q := sv + 62) (n := 1) X h62' (by intro q; rcases q with q | q <;> exact absurd q (by decide)) dL_dateAt_11 ?_
    rw [show (I 0).toNatClampNeg = 0 from by decide]
    refine g_goto (tgt := 19) X dL_dateAt_12 (by decide) ?_
    refine g_iconst (v := I 0) X dL_dateAt_19 rfl ?_
    exact h_iret X C hr rfl dL_dateAt_20 (by rw [hR]; exact Nat.le_of_ble_eq_true rfl) (by rw [hR]; exact Nat.le_of_ble_eq_true rfl) ((hok v rfl).2)
theorem dL_begin_0 : decode cL_begin 0 = .ok (.aload 4, 2) := by decide +kernel
theorem dL_begin_2 : decode cL_begin 2 = .ok (.iconst 0, 1) := by decide +kernel
theorem dL_begin_3 : decode cL_begin 3 = .ok (.aload_n 0, 1) := by decide +kernel
theorem dL_begin_4 : decode cL_begin 4 = .ok (.iload_n 1, 1) := by decide +kernel
theorem dL_begin_5 : decode cL_begin 5 = .ok (.iload_n 2, 1) := by decide +kernel
theorem dL_begin_6 : decode cL_begin 6 = .ok (.iload_n 3, 1) := by decide +kernel
theorem dL_begin_7 : decode cL_begin 7 = .ok (.invokevirtual 105, 3) := by decide +kernel
theorem dL_begin_10 : decode cL_begin 10 = .ok (.i2l, 1) := by decide +kernel
theorem dL_begin_11 : decode cL_begin 11 = .ok (.lastore, 1) := by decide +kernel
theorem dL_begin_12 : decode cL_begin 12 = .ok (.goto 15, 3) := by decide +kernel
theorem dL_begin_15 : decode cL_begin 15 = .ok (.astore 5, 2) := by decide +kernel
theorem dL_begin_17 : decode cL_begin 17 = .ok (.iconst 1, 1) := by decide +kernel
theorem dL_begin_18 : decode cL_begin 18 = .ok (.ireturn, 1) := by decide +kernel
theorem dL_begin_19 : decode cL_begin 19 = .ok (.astore 5, 2) := by decide +kernel
theorem dL_begin_21 : decode cL_begin 21 = .ok (.iconst 2, 1) := by decide +kernel
theorem dL_begin_22 : decode cL_begin 22 = .ok (.ireturn, 1) := by decide +kernel
theorem dL_begin_23 : decode cL_begin 23 = .ok (.astore 5, 2) := by decide +kernel
theorem dL_begin_25 : decode cL_begin 25 = .ok (.iconst 3, 1) := by decide +kernel
theorem dL_begin_26 : decode cL_begin 26 = .ok (.ireturn, 1) := by decide +kernel
theorem dL_begin_27 : decode cL_begin 27 = .ok (.iconst 0, 1) := by decide +kernel
theorem dL_begin_28 : decode cL_begin 28 = .ok (.ireturn, 1) := by decide +kernel
theorem lkh_begin : LKH yL_begin cL_begin 6 (some .int) [(0, 12, 15, 13), (0, 12, 19, 15), (0, 12, 23, 31)] 5 := ⟨(qW_at 1106 (by decide +kernel) rfl), (qW_at 74 (by decide +kernel) rfl), by decide, by decide, by decide +kernel⟩
theorem stl_begin : Cond.static yL_begin ∈ qW := (qW_at 1105 (by decide +kernel) rfl)
set_option maxRecDepth 100000 in
set_option maxHeartbeats 1600000 in
theorem E_L_begin (sv : Nat) (p0 p1 p2 : Int32) : MEH yL_begin cL_begin 6 (some .int) [(0, 12, 15, 13), (0, 12, 19, 15), (0, 12, 23, 31)] 9 145 4 24 (fun DA => [.ref sv, .int p0, .int p1, .int p2, .ref (sv + 62)]) (fun DA mm R => qty mm sv = (1, 7, 0) ∧ qty mm (sv + 62) = (3, 0, 1) ∧ ∃ r m1, F_X6_begin sv p0 p1 p2 mm = some (r, m1) ∧ KP sv mm m1 ∧ (∀ v, r = .ok v → True ∧ R (.ok (some (.int (I 0)))) (sal m1 (sv + 62) 0 v.toInt64)) ∧ (∀ e0, r = .error e0 → ∃ cd, mpA e0 = some cd ∧ ∀ n, qtop m1 ≤ n → R (.ok (some (.int (I cd)))) (stop m1 n))) := by
  refine MEH_of (env0 := fun DA => [(0, .ref sv), (1, .int p0), (2, .int p1), (3, .int p2), (4, .ref (sv + 62))]) (by decide) (fun DA => by exact Nat.le_of_ble_eq_true rfl) (fun DA => by rfl) (fun k mm R X C hR hN hr hname hP => ?_)
  have X : CX k cL_begin RL := X
  have htr := C.2.2.2.1
  obtain ⟨h1, h62, r, m1, hx, hk, hok, her⟩ := hP
  let T9 : Nat → QM → Prop := fun e m' => ∃ cd, mpA e = some cd ∧ ∀ n, qtop m' ≤ n → R (.ok (some (.int (I cd)))) (stop m' n)
  have hTp : THp k 7 T9 := by
    intro e mm9 H locs ls rest ce q9 a9 b9 hT9 z9 hn9 hl9 hls9 hq9 hv9 hc9 ha9 hb9
    obtain ⟨cd, hcd, hR9⟩ := hT9
    unfold mpA at hcd
    by_cases e1 : e = 1
    · subst e1
      have hcd : some (1 : Int) = some cd := hcd
      cases hcd
      refine t_catch (e := 1) (hh := [(0, 12, 15, 13), (0, 12, 19, 15), (0, 12, 23, 31)]) (pre := []) (suf := [(0, 12, 19, 15), (0, 12, 23, 31)]) X C.2.1 rfl (by decide) (by decide) (by decide) (qW_at 195 (by decide +kernel) rfl) (qN_at 207 (by decide +kernel) rfl) (fun z hz => absurd hz List.not_mem_nil) (fun q n a b hn ha hb => ?_) H locs ls rest ce q9 a9 b9 z9 hn9 hl9 hls9 hq9 hv9 hc9 ha9 hb9
      refine g_astore (r := some q) (env' := [(5, .ref q)]) X dL_begin_15 (by rw [hN]; decide) rfl ?_
      refine g_iconst (v := I 1) X dL_begin_17 rfl ?_
      exact h_iret X C hr rfl dL_begin_18 ha hb (hR9 n hn)
    · rw [if_neg e1] at hcd
      by_cases e2 : e = 2
      · subst e2
        have hcd : some (2 : Int) = some cd := hcd
        cases hcd
        refine t_catch (e := 2) (hh := [(0, 12, 15, 13), (0, 12, 19, 15), (0, 12, 23, 31)]) (pre := [(0, 12, 15, 13)]) (suf := [(0, 12, 23, 31)]) X C.2.1 rfl (by decide) (by decide) (by decide) (qW_at 196 (by decide +kernel) rfl) (qN_at 276 (by decide +kernel) rfl) (fun z hz => by
          simp only [List.mem_cons, List.mem_nil_iff, or_false] at hz
          rcases hz with rfl
          · exact ⟨by decide, 1, by decide, by decide, (qW_at 195 (by decide +kernel) rfl)⟩) (fun q n a b hn ha hb => ?_) H locs ls rest ce q9 a9 b9 z9 hn9 hl9 hls9 hq9 hv9 hc9 ha9 hb9
        refine g_astore (r := some q) (env' := [(5, .ref q)]) X dL_begin_19 (by rw [hN]; decide) rfl ?_
        refine g_iconst (v := I 2) X dL_begin_21 rfl ?_
        exact h_iret X C hr rfl dL_begin_22 ha hb (hR9 n hn)
      · rw [if_neg e2] at hcd
        by_cases e3 : e = 3
        · subst e3
          have hcd : some (3 : Int) = some cd := hcd
          cases hcd
          refine t_catch (e := 3) (hh := [(0, 12, 15, 13), (0, 12, 19, 15), (0, 12, 23, 31)]) (pre := [(0, 12, 15, 13), (0, 12, 19, 15)]) (suf := []) X C.2.1 rfl (by decide) (by decide) (by decide) (qW_at 334 (by decide +kernel) rfl) (qN_at 350 (by decide +kernel) rfl) (fun z hz => by
            simp only [List.mem_cons, List.mem_nil_iff, or_false] at hz
            rcases hz with rfl | rfl
            · exact ⟨by decide, 1, by decide, by decide, (qW_at 195 (by decide +kernel) rfl)⟩
            · exact ⟨by decide, 2, by decide, by decide, (qW_at 196 (by decide +kernel) rfl)⟩) (fun q n a b hn ha hb => ?_) H locs ls rest ce q9 a9 b9 z9 hn9 hl9 hls9 hq9 hv9 hc9 ha9 hb9
          refine g_astore (r := some q) (env' := [(5, .ref q)]) X dL_begin_23 (by rw [hN]; decide) rfl ?_
          refine g_iconst (v := I 3) X dL_begin_25 rfl ?_
          exact h_iret X C hr rfl dL_begin_26 ha hb (hR9 n hn)
        · rw [if_neg e3] at hcd
          exact absurd hcd (by simp)
  have h62' := hk.ty62 h62
  refine g_aload (r := some (sv + 62)) 4 X dL_begin_0 rfl ?_
  refine g_iconst (v := I 0) X dL_begin_2 rfl ?_
  refine t_al 0 X dL_begin_3 rfl rfl ?_
  refine g_iload_n 1 X dL_begin_4 rfl rfl ?_
  refine g_iload_n 2 X dL_begin_5 rfl rfl ?_
  refine g_iload_n 3 X dL_begin_6 rfl rfl ?_
  refine p_callV (st := [.int (I 0), .ref (sv + 62)]) (q := sv) (av := [.int p0, .int p1, .int p2]) (T := T9) X hTp htr rfl h1 (M_X6_begin sv p0 p1 p2) lk_X6_begin im_X6_begin se_X6_begin (qW_at 1107 (by decide +kernel) rfl) rfl (by rw [hR]; exact ⟨Nat.le_of_ble_eq_true rfl, Nat.le_of_ble_eq_true rfl⟩) (by exact Nat.le_of_ble_eq_true rfl) (by rw [hR]; exact ⟨Nat.le_of_ble_eq_true rfl, Nat.le_of_ble_eq_true rfl⟩) dL_begin_7 (by rfl) ?_
  unfold qwp
  rw [hx]
  cases r with
  | error e => exact her e rfl
  | ok v =>
    show GG k _ (.int v :: .int (I 0) :: .ref (sv + 62) :: []) m1 _ _ _
    refine g_i2l X dL_begin_10 ?_
    refine g_last (q := sv + 62) (n := 1) X h62' (by intro q; rcases q with q | q <;> exact absurd q (by decide)) dL_begin_11 ?_
    rw [show (I 0).toNatClampNeg = 0 from by decide]
    refine g_goto (tgt := 27) X dL_begin_12 (by decide) ?_
    refine g_iconst (v := I 0) X dL_begin_27 rfl ?_
    exact h_iret X C hr rfl dL_begin_28 (by rw [hR]; exact Nat.le_of_ble_eq_true rfl) (by rw [hR]; exact Nat.le_of_ble_eq_true rfl) ((hok v rfl).2)
theorem dL_ownAnswer_0 : decode cL_ownAnswer 0 = .ok (.aload 4, 2) := by decide +kernel
theorem dL_ownAnswer_2 : decode cL_ownAnswer 2 = .ok (.iconst 0, 1) := by decide +kernel
theorem dL_ownAnswer_3 : decode cL_ownAnswer 3 = .ok (.aload_n 0, 1) := by decide +kernel
theorem dL_ownAnswer_4 : decode cL_ownAnswer 4 = .ok (.iload_n 1, 1) := by decide +kernel
theorem dL_ownAnswer_5 : decode cL_ownAnswer 5 = .ok (.iload_n 2, 1) := by decide +kernel
theorem dL_ownAnswer_6 : decode cL_ownAnswer 6 = .ok (.iload_n 3, 1) := by decide +kernel
theorem dL_ownAnswer_7 : decode cL_ownAnswer 7 = .ok (.invokevirtual 108, 3) := by decide +kernel
theorem dL_ownAnswer_10 : decode cL_ownAnswer 10 = .ok (.i2l, 1) := by decide +kernel
theorem dL_ownAnswer_11 : decode cL_ownAnswer 11 = .ok (.lastore, 1) := by decide +kernel
theorem dL_ownAnswer_12 : decode cL_ownAnswer 12 = .ok (.goto 15, 3) := by decide +kernel
theorem dL_ownAnswer_15 : decode cL_ownAnswer 15 = .ok (.astore 5, 2) := by decide +kernel
theorem dL_ownAnswer_17 : decode cL_ownAnswer 17 = .ok (.iconst 1, 1) := by decide +kernel
theorem dL_ownAnswer_18 : decode cL_ownAnswer 18 = .ok (.ireturn, 1) := by decide +kernel
theorem dL_ownAnswer_19 : decode cL_ownAnswer 19 = .ok (.astore 5, 2) := by decide +kernel
theorem dL_ownAnswer_21 : decode cL_ownAnswer 21 = .ok (.iconst 2, 1) := by decide +kernel
theorem dL_ownAnswer_22 : decode cL_ownAnswer 22 = .ok (.ireturn, 1) := by decide +kernel
theorem dL_ownAnswer_23 : decode cL_ownAnswer 23 = .ok (.astore 5, 2) := by decide +kernel
theorem dL_ownAnswer_25 : decode cL_ownAnswer 25 = .ok (.iconst 3, 1) := by decide +kernel
theorem dL_ownAnswer_26 : decode cL_ownAnswer 26 = .ok (.ireturn, 1) := by decide +kernel
theorem dL_ownAnswer_27 : decode cL_ownAnswer 27 = .ok (.iconst 0, 1) := by decide +kernel
theorem dL_ownAnswer_28 : decode cL_ownAnswer 28 = .ok (.ireturn, 1) := by decide +kernel
theorem lkh_ownAnswer : LKH yL_ownAnswer cL_ownAnswer 6 (some .int) [(0, 12, 15, 13), (0, 12, 19, 15), (0, 12, 23, 31)] 5 := ⟨(qW_at 1121 (by decide +kernel) rfl), (qW_at 74 (by decide +kernel) rfl), by decide, by decide, by decide +kernel⟩
theorem stl_ownAnswer : Cond.static yL_ownAnswer ∈ qW := (qW_at 1120 (by decide +kernel) rfl)
set_option maxRecDepth 100000 in
set_option maxHeartbeats 1600000 in
theorem E_L_ownAnswer (sv : Nat) (p0 p1 p2 : Int32) : MEH yL_ownAnswer cL_ownAnswer 6 (some .int) [(0, 12, 15, 13), (0, 12, 19, 15), (0, 12, 23, 31)] 9 145 4 24 (fun DA => [.ref sv, .int p0, .int p1, .int p2, .ref (sv + 62)]) (fun DA mm R => qty mm sv = (1, 7, 0) ∧ qty mm (sv + 62) = (3, 0, 1) ∧ ∃ r m1, F_X6_ownAnswer sv p0 p1 p2 mm = some (r, m1) ∧ KP sv mm m1 ∧ (∀ v, r = .ok v → True ∧ R (.ok (some (.int (I 0)))) (sal m1 (sv + 62) 0 v.toInt64)) ∧ (∀ e0, r = .error e0 → ∃ cd, mpA e0 = some cd ∧ ∀ n, qtop m1 ≤ n → R (.ok (some (.int (I cd)))) (stop m1 n))) := by
  refine MEH_of (env0 := fun DA => [(0, .ref sv), (1, .int p0), (2, .int p1), (3, .int p2), (4, .ref (sv + 62))]) (by decide) (fun DA => by exact Nat.le_of_ble_eq_true rfl) (fun DA => by rfl) (fun k mm R X C hR hN hr hname hP => ?_)
  have X : CX k cL_ownAnswer RL := X
  have htr := C.2.2.2.1
  obtain ⟨h1, h62, r, m1, hx, hk, hok, her⟩ := hP
  let T9 : Nat → QM → Prop := fun e m' => ∃ cd, mpA e = some cd ∧ ∀ n, qtop m' ≤ n → R (.ok (some (.int (I cd)))) (stop m' n)
  have hTp : THp k 7 T9 := by
    intro e mm9 H locs ls rest ce q9 a9 b9 hT9 z9 hn9 hl9 hls9 hq9 hv9 hc9 ha9 hb9
    obtain ⟨cd, hcd, hR9⟩ := hT9
    unfold mpA at hcd
    by_cases e1 : e = 1
    · subst e1
      have hcd : some (1 : Int) = some cd := hcd
      cases hcd
      refine t_catch (e := 1) (hh := [(0, 12, 15, 13), (0, 12, 19, 15), (0, 12, 23, 31)]) (pre := []) (suf := [(0, 12, 19, 15), (0, 12, 23, 31)]) X C.2.1 rfl (by decide) (by decide) (by decide) (qW_at 195 (by decide +kernel) rfl) (qN_at 207 (by decide +kernel) rfl) (fun z hz => absurd hz List.not_mem_nil) (fun q n a b hn ha hb => ?_) H locs ls rest ce q9 a9 b9 z9 hn9 hl9 hls9 hq9 hv9 hc9 ha9 hb9
      refine g_astore (r := some q) (env' := [(5, .ref q)]) X dL_ownAnswer_15 (by rw [hN]; decide) rfl ?_
      refine g_iconst (v := I 1) X dL_ownAnswer_17 rfl ?_
      exact h_iret X C hr rfl dL_ownAnswer_18 ha hb (hR9 n hn)
    · rw [if_neg e1] at hcd
      by_cases e2 : e = 2
      · subst e2
        have hcd : some (2 : Int) = some cd := hcd
        cases hcd
        refine t_catch (e := 2) (hh := [(0, 12, 15, 13), (0, 12, 19, 15), (0, 12, 23, 31)]) (pre := [(0, 12, 15, 13)]) (suf := [(0, 12, 23, 31)]) X C.2.1 rfl (by decide) (by decide) (by decide) (qW_at 196 (by decide +kernel) rfl) (qN_at 276 (by decide +kernel) rfl) (fun z hz => by
          simp only [List.mem_cons, List.mem_nil_iff, or_false] at hz
          rcases hz with rfl
          · exact ⟨by decide, 1, by decide, by decide, (qW_at 195 (by decide +kernel) rfl)⟩) (fun q n a b hn ha hb => ?_) H locs ls rest ce q9 a9 b9 z9 hn9 hl9 hls9 hq9 hv9 hc9 ha9 hb9
        refine g_astore (r := some q) (env' := [(5, .ref q)]) X dL_ownAnswer_19 (by rw [hN]; decide) rfl ?_
        refine g_iconst (v := I 2) X dL_ownAnswer_21 rfl ?_
        exact h_iret X C hr rfl dL_ownAnswer_22 ha hb (hR9 n hn)
      · rw [if_neg e2] at hcd
        by_cases e3 : e = 3
        · subst e3
          have hcd : some (3 : Int) = some cd := hcd
          cases hcd
          refine t_catch (e := 3) (hh := [(0, 12, 15, 13), (0, 12, 19, 15), (0, 12, 23, 31)]) (pre := [(0, 12, 15, 13), (0, 12, 19, 15)]) (suf := []) X C.2.1 rfl (by decide) (by decide) (by decide) (qW_at 334 (by decide +kernel) rfl) (qN_at 350 (by decide +kernel) rfl) (fun z hz => by
            simp only [List.mem_cons, List.mem_nil_iff, or_false] at hz
            rcases hz with rfl | rfl
            · exact ⟨by decide, 1, by decide, by decide, (qW_at 195 (by decide +kernel) rfl)⟩
            · exact ⟨by decide, 2, by decide, by decide, (qW_at 196 (by decide +kernel) rfl)⟩) (fun q n a b hn ha hb => ?_) H locs ls rest ce q9 a9 b9 z9 hn9 hl9 hls9 hq9 hv9 hc9 ha9 hb9
          refine g_astore (r := some q) (env' := [(5, .ref q)]) X dL_ownAnswer_23 (by rw [hN]; decide) rfl ?_
          refine g_iconst (v := I 3) X dL_ownAnswer_25 rfl ?_
          exact h_iret X C hr rfl dL_ownAnswer_26 ha hb (hR9 n hn)
        · rw [if_neg e3] at hcd
          exact absurd hcd (by simp)
  have h62' := hk.ty62 h62
  refine g_aload (r := some (sv + 62)) 4 X dL_ownAnswer_0 rfl ?_
  refine g_iconst (v := I 0) X dL_ownAnswer_2 rfl ?_
  refine t_al 0 X dL_ownAnswer_3 rfl rfl ?_
  refine g_iload_n 1 X dL_ownAnswer_4 rfl rfl ?_
  refine g_iload_n 2 X dL_ownAnswer_5 rfl rfl ?_
  refine g_iload_n 3 X dL_ownAnswer_6 rfl rfl ?_
  refine p_callV (st := [.int (I 0), .ref (sv + 62)]) (q := sv) (av := [.int p0, .int p1, .int p2]) (T := T9) X hTp htr rfl h1 (M_X6_ownAnswer sv p0 p1 p2) lk_X6_ownAnswer im_X6_ownAnswer se_X6_ownAnswer (qW_at 1122 (by decide +kernel) rfl) rfl (by rw [hR]; exact ⟨Nat.le_of_ble_eq_true rfl, Nat.le_of_ble_eq_true rfl⟩) (by exact Nat.le_of_ble_eq_true rfl) (by rw [hR]; exact ⟨Nat.le_of_ble_eq_true rfl, Nat.le_of_ble_eq_true rfl⟩) dL_ownAnswer_7 (by rfl) ?_
  unfold qwp
  rw [hx]
  cases r with
  | error e => exact her e rfl
  | ok v =>
    show GG k _ (.int v :: .int (I 0) :: .ref (sv + 62) :: []) m1 _ _ _
    refine g_i2l X dL_ownAnswer_10 ?_
    refine g_last (q := sv + 62) (n := 1) X h62' (by intro q; rcases q with q | q <;> exact absurd q (by decide)) dL_ownAnswer_11 ?_
    rw [show (I 0).toNatClampNeg = 0 from by decide]
    refine g_goto (tgt := 27) X dL_ownAnswer_12 (by decide) ?_
    refine g_iconst (v := I 0) X dL_ownAnswer_27 rfl ?_
    exact h_iret X C hr rfl dL_ownAnswer_28 (by rw [hR]; exact Nat.le_of_ble_eq_true rfl) (by rw [hR]; exact Nat.le_of_ble_eq_true rfl) ((hok v rfl).2)
theorem dL_isAsked_0 : decode cL_isAsked 0 = .ok (.aload_n 3, 1) := by decide +kernel
theorem dL_isAsked_1 : decode cL_isAsked 1 = .ok (.iconst 0, 1) := by decide +kernel
theorem dL_isAsked_2 : decode cL_isAsked 2 = .ok (.aload_n 0, 1) := by decide +kernel
theorem dL_isAsked_3 : decode cL_isAsked 3 = .ok (.iload_n 1, 1) := by decide +kernel
theorem dL_isAsked_4 : decode cL_isAsked 4 = .ok (.iload_n 2, 1) := by decide +kernel
theorem dL_isAsked_5 : decode cL_isAsked 5 = .ok (.invokevirtual 111, 3) := by decide +kernel
theorem dL_isAsked_8 : decode cL_isAsked 8 = .ok (.ifCond .eq 7, 3) := by decide +kernel
theorem dL_isAsked_11 : decode cL_isAsked 11 = .ok (.lconst 1, 1) := by decide +kernel
theorem dL_isAsked_12 : decode cL_isAsked 12 = .ok (.goto 4, 3) := by decide +kernel
theorem dL_isAsked_15 : decode cL_isAsked 15 = .ok (.lconst 0, 1) := by decide +kernel
theorem dL_isAsked_16 : decode cL_isAsked 16 = .ok (.lastore, 1) := by decide +kernel
theorem dL_isAsked_17 : decode cL_isAsked 17 = .ok (.goto 7, 3) := by decide +kernel
theorem dL_isAsked_20 : decode cL_isAsked 20 = .ok (.astore 4, 2) := by decide +kernel
theorem dL_isAsked_22 : decode cL_isAsked 22 = .ok (.iconst 1, 1) := by decide +kernel
theorem dL_isAsked_23 : decode cL_isAsked 23 = .ok (.ireturn, 1) := by decide +kernel
theorem dL_isAsked_24 : decode cL_isAsked 24 = .ok (.iconst 0, 1) := by decide +kernel
theorem dL_isAsked_25 : decode cL_isAsked 25 = .ok (.ireturn, 1) := by decide +kernel
theorem lkh_isAsked : LKH yL_isAsked cL_isAsked 5 (some .int) [(0, 17, 20, 13)] 4 := ⟨(qW_at 1142 (by decide +kernel) rfl), (qW_at 74 (by decide +kernel) rfl), by decide, by decide, by decide +kernel⟩
theorem stl_isAsked : Cond.static yL_isAsked ∈ qW := (qW_at 1141 (by decide +kernel) rfl)
set_option maxRecDepth 100000 in
set_option maxHeartbeats 1600000 in
theorem E_L_isAsked (sv : Nat) (p0 p1 : Int32) : MEH yL_isAsked cL_isAsked 5 (some .int) [(0, 17, 20, 13)] 8 125 2 12 (fun DA => [.ref sv, .int p0, .int p1, .ref (sv + 62)]) (fun DA mm R => qty mm sv = (1, 7, 0) ∧ qty mm (sv + 62) = (3, 0, 1) ∧ ∃ r m1, F_X6_isAsked sv p0 p1 mm = some (r, m1) ∧ KP sv mm m1 ∧ (∀ v, r = .ok v → (v = 0 ∨ v = 1) ∧ R (.ok (some (.int (I 0)))) (sal m1 (sv + 62) 0 v.toInt64)) ∧ (∀ e0, r = .error e0 → ∃ cd, mpD e0 = some cd ∧ ∀ n, qtop m1 ≤ n → R (.ok (some (.int (I cd)))) (stop m1 n))) := by
  refine MEH_of (env0 := fun DA => [(0, .ref sv), (1, .int p0), (2, .int p1), (3, .ref (sv + 62))]) (by decide) (fun DA => by exact Nat.le_of_ble_eq_true rfl) (fun DA => by rfl) (fun k mm R X C hR hN hr hname hP => ?_)
  have X : CX k cL_isAsked RL := X
  have htr := C.2.2.2.1
  obtain ⟨h1, h62, r, m1, hx, hk, hok, her⟩ := hP
  let T9 : Nat → QM → Prop := fun e m' => ∃ cd, mpD e = some cd ∧ ∀ n, qtop m' ≤ n → R (.ok (some (.int (I cd)))) (stop m' n)
  have hTp : THp k 5 T9 := by
    intro e mm9 H locs ls rest ce q9 a9 b9 hT9 z9 hn9 hl9 hls9 hq9 hv9 hc9 ha9 hb9
    obtain ⟨cd, hcd, hR9⟩ := hT9
    unfold mpD at hcd
    by_cases e1 : e = 1
    · subst e1
      have hcd : some (1 : Int) = some cd := hcd
      cases hcd
      refine t_catch (e := 1) (hh := [(0, 17, 20, 13)]) (pre := []) (suf := []) X C.2.1 rfl (by decide) (by decide) (by decide) (qW_at 195 (by decide +kernel) rfl) (qN_at 207 (by decide +kernel) rfl) (fun z hz => absurd hz List.not_mem_nil) (fun q n a b hn ha hb => ?_) H locs ls rest ce q9 a9 b9 z9 hn9 hl9 hls9 hq9 hv9 hc9 ha9 hb9
      refine g_astore (r := some q) (env' := [(4, .ref q)]) X dL_isAsked_20 (by rw [hN]; decide) rfl ?_
      refine g_iconst (v := I 1) X dL_isAsked_22 rfl ?_
      exact h_iret X C hr rfl dL_isAsked_23 ha hb (hR9 n hn)
    · rw [if_neg e1] at hcd
      exact absurd hcd (by simp)
  have h62' := hk.ty62 h62
  refine t_al 3 X dL_isAsked_0 rfl rfl ?_
  refine g_iconst (v := I 0) X dL_isAsked_1 rfl ?_
  refine t_al 0 X dL_isAsked_2 rfl rfl ?_
  refine g_iload_n 1 X dL_isAsked_3 rfl rfl ?_
  refine g_iload_n 2 X dL_isAsked_4 rfl rfl ?_
  refine p_callV (st := [.int (I 0), .ref (sv + 62)]) (q := sv) (av := [.int p0, .int p1]) (T := T9) X hTp htr rfl h1 (M_X6_isAsked sv p0 p1) lk_X6_isAsked im_X6_isAsked se_X6_isAsked (qW_at 1143 (by decide +kernel) rfl) rfl (by rw [hR]; exact ⟨Nat.le_of_ble_eq_true rfl, Nat.le_of_ble_eq_true rfl⟩) (by exact Nat.le_of_ble_eq_true rfl) (by rw [hR]; exact ⟨Nat.le_of_ble_eq_true rfl, Nat.le_of_ble_eq_true rfl⟩) dL_isAsked_5 (by rfl) ?_
  unfold qwp
  rw [hx]
  cases r with
  | error e => exact her e rfl
  | ok v =>
    show GG k _ (.int v :: .int (I 0) :: .ref (sv + 62) :: []) m1 _ _ _
    rcases (hok v rfl).1 with rfl | rfl
    · refine t_eqT (tgt := 15) X dL_isAsked_8 (by decide) rfl ?_
      refine g_lconst (v := (0 : Int32).toInt64) X dL_isAsked_15 (by decide) ?_
      refine g_last (q := sv + 62) (n := 1) X h62' (by intro q; rcases q with q | q <;> exact absurd q (by decide)) dL_isAsked_16 ?_
      rw [show (I 0).toNatClampNeg = 0 from by decide]
      refine g_goto (tgt := 24) X dL_isAsked_17 (by decide) ?_
      refine g_iconst (v := I 0) X dL_isAsked_24 rfl ?_
      exact h_iret X C hr rfl dL_isAsked_25 (by rw [hR]; exact Nat.le_of_ble_eq_true rfl) (by rw [hR]; exact Nat.le_of_ble_eq_true rfl) ((hok _ rfl).2)
    · refine t_eqF 15 X dL_isAsked_8 (by decide) (by decide) ?_
      refine g_lconst (v := (1 : Int32).toInt64) X dL_isAsked_11 (by decide) ?_
      refine g_goto (tgt := 16) X dL_isAsked_12 (by decide) ?_
      refine g_last (q := sv + 62) (n := 1) X h62' (by intro q; rcases q with q | q <;> exact absurd q (by decide)) dL_isAsked_16 ?_
      rw [show (I 0).toNatClampNeg = 0 from by decide]
      refine g_goto (tgt := 24) X dL_isAsked_17 (by decide) ?_
      refine g_iconst (v := I 0) X dL_isAsked_24 rfl ?_
      exact h_iret X C hr rfl dL_isAsked_25 (by rw [hR]; exact Nat.le_of_ble_eq_true rfl) (by rw [hR]; exact Nat.le_of_ble_eq_true rfl) ((hok _ rfl).2)
theorem dL_answerOf_0 : decode cL_answerOf 0 = .ok (.aload 4, 2) := by decide +kernel
theorem dL_answerOf_2 : decode cL_answerOf 2 = .ok (.iconst 0, 1) := by decide +kernel
theorem dL_answerOf_3 : decode cL_answerOf 3 = .ok (.aload_n 0, 1) := by decide +kernel
theorem dL_answerOf_4 : decode cL_answerOf 4 = .ok (.iload_n 1, 1) := by decide +kernel
theorem dL_answerOf_5 : decode cL_answerOf 5 = .ok (.iload_n 2, 1) := by decide +kernel
theorem dL_answerOf_6 : decode cL_answerOf 6 = .ok (.iload_n 3, 1) := by decide +kernel
theorem dL_answerOf_7 : decode cL_answerOf 7 = .ok (.invokevirtual 114, 3) := by decide +kernel
theorem dL_answerOf_10 : decode cL_answerOf 10 = .ok (.i2l, 1) := by decide +kernel
theorem dL_answerOf_11 : decode cL_answerOf 11 = .ok (.lastore, 1) := by decide +kernel
theorem dL_answerOf_12 : decode cL_answerOf 12 = .ok (.goto 15, 3) := by decide +kernel
theorem dL_answerOf_15 : decode cL_answerOf 15 = .ok (.astore 5, 2) := by decide +kernel
theorem dL_answerOf_17 : decode cL_answerOf 17 = .ok (.iconst 1, 1) := by decide +kernel
theorem dL_answerOf_18 : decode cL_answerOf 18 = .ok (.ireturn, 1) := by decide +kernel
theorem dL_answerOf_19 : decode cL_answerOf 19 = .ok (.astore 5, 2) := by decide +kernel
theorem dL_answerOf_21 : decode cL_answerOf 21 = .ok (.iconst 2, 1) := by decide +kernel
theorem dL_answerOf_22 : decode cL_answerOf 22 = .ok (.ireturn, 1) := by decide +kernel
theorem dL_answerOf_23 : decode cL_answerOf 23 = .ok (.astore 5, 2) := by decide +kernel
theorem dL_answerOf_25 : decode cL_answerOf 25 = .ok (.iconst 3, 1) := by decide +kernel
theorem dL_answerOf_26 : decode cL_answerOf 26 = .ok (.ireturn, 1) := by decide +kernel
theorem dL_answerOf_27 : decode cL_answerOf 27 = .ok (.iconst 0, 1) := by decide +kernel
theorem dL_answerOf_28 : decode cL_answerOf 28 = .ok (.ireturn, 1) := by decide +kernel
theorem lkh_answerOf : LKH yL_answerOf cL_answerOf 6 (some .int) [(0, 12, 15, 13), (0, 12, 19, 15), (0, 12, 23, 31)] 5 := ⟨(qW_at 1149 (by decide +kernel) rfl), (qW_at 74 (by decide +kernel) rfl), by decide, by decide, by decide +kernel⟩
theorem stl_answerOf : Cond.static yL_answerOf ∈ qW := (qW_at 1148 (by decide +kernel) rfl)
set_option maxRecDepth 100000 in
set_option maxHeartbeats 1600000 in
theorem E_L_answerOf (sv : Nat) (p0 p1 p2 : Int32) : MEH yL_answerOf cL_answerOf 6 (some .int) [(0, 12, 15, 13), (0, 12, 19, 15), (0, 12, 23, 31)] 9 145 4 24 (fun DA => [.ref sv, .int p0, .int p1, .int p2, .ref (sv + 62)]) (fun DA mm R => qty mm sv = (1, 7, 0) ∧ qty mm (sv + 62) = (3, 0, 1) ∧ ∃ r m1, F_X6_answerOf sv p0 p1 p2 mm = some (r, m1) ∧ KP sv mm m1 ∧ (∀ v, r = .ok v → True ∧ R (.ok (some (.int (I 0)))) (sal m1 (sv + 62) 0 v.toInt64)) ∧ (∀ e0, r = .error e0 → ∃ cd, mpA e0 = some cd ∧ ∀ n, qtop m1 ≤ n → R (.ok (some (.int (I cd)))) (stop m1 n))) := by
  refine MEH_of (env0 := fun DA => [(0, .ref sv), (1, .int p0), (2, .int p1), (3, .int p2), (4, .ref (sv + 62))]) (by decide) (fun DA => by exact Nat.le_of_ble_eq_true rfl) (fun DA => by rfl) (fun k mm R X C hR hN hr hname hP => ?_)
  have X : CX k cL_answerOf RL := X
  have htr := C.2.2.2.1
  obtain ⟨h1, h62, r, m1, hx, hk, hok, her⟩ := hP
  let T9 : Nat → QM → Prop := fun e m' => ∃ cd, mpA e = some cd ∧ ∀ n, qtop m' ≤ n → R (.ok (some (.int (I cd)))) (stop m' n)
  have hTp : THp k 7 T9 := by
    intro e mm9 H locs ls rest ce q9 a9 b9 hT9 z9 hn9 hl9 hls9 hq9 hv9 hc9 ha9 hb9
    obtain ⟨cd, hcd, hR9⟩ := hT9
    unfold mpA at hcd
    by_cases e1 : e = 1
    · subst e1
      have hcd : some (1 : Int) = some cd := hcd
      cases hcd
      refine t_catch (e := 1) (hh := [(0, 12, 15, 13), (0, 12, 19, 15), (0, 12, 23, 31)]) (pre := []) (suf := [(0, 12, 19, 15), (0, 12, 23, 31)]) X C.2.1 rfl (by decide) (by decide) (by decide) (qW_at 195 (by decide +kernel) rfl) (qN_at 207 (by decide +kernel) rfl) (fun z hz => absurd hz List.not_mem_nil) (fun q n a b hn ha hb => ?_) H locs ls rest ce q9 a9 b9 z9 hn9 hl9 hls9 hq9 hv9 hc9 ha9 hb9
      refine g_astore (r := some q) (env' := [(5, .ref q)]) X dL_answerOf_15 (by rw [hN]; decide) rfl ?_
      refine g_iconst (v := I 1) X dL_answerOf_17 rfl ?_
      exact h_iret X C hr rfl dL_answerOf_18 ha hb (hR9 n hn)
    · rw [if_neg e1] at hcd
      by_cases e2 : e = 2
      · subst e2
        have hcd : some (2 : Int) = some cd := hcd
        cases hcd
        refine t_catch (e := 2) (hh := [(0, 12, 15, 13), (0, 12, 19, 15), (0, 12, 23, 31)]) (pre := [(0, 12, 15, 13)]) (suf := [(0, 12, 23, 31)]) X C.2.1 rfl (by decide) (by decide) (by decide) (qW_at 196 (by decide +kernel) rfl) (qN_at 276 (by decide +kernel) rfl) (fun z hz => by
          simp only [List.mem_cons, List.mem_nil_iff, or_false] at hz
          rcases hz with rfl
          · exact ⟨by decide, 1, by decide, by decide, (qW_at 195 (by decide +kernel) rfl)⟩) (fun q n a b hn ha hb => ?_) H locs ls rest ce q9 a9 b9 z9 hn9 hl9 hls9 hq9 hv9 hc9 ha9 hb9
        refine g_astore (r := some q) (env' := [(5, .ref q)]) X dL_answerOf_19 (by rw [hN]; decide) rfl ?_
        refine g_iconst (v := I 2) X dL_answerOf_21 rfl ?_
        exact h_iret X C hr rfl dL_answerOf_22 ha hb (hR9 n hn)
      · rw [if_neg e2] at hcd
        by_cases e3 : e = 3
        · subst e3
          have hcd : some (3 : Int) = some cd := hcd
          cases hcd
          refine t_catch (e := 3) (hh := [(0, 12, 15, 13), (0, 12, 19, 15), (0, 12, 23, 31)]) (pre := [(0, 12, 15, 13), (0, 12, 19, 15)]) (suf := []) X C.2.1 rfl (by decide) (by decide) (by decide) (qW_at 334 (by decide +kernel) rfl) (qN_at 350 (by decide +kernel) rfl) (fun z hz => by
            simp only [List.mem_cons, List.mem_nil_iff, or_false] at hz
            rcases hz with rfl | rfl
            · exact ⟨by decide, 1, by decide, by decide, (qW_at 195 (by decide +kernel) rfl)⟩
            · exact ⟨by decide, 2, by decide, by decide, (qW_at 196 (by decide +kernel) rfl)⟩) (fun q n a b hn ha hb => ?_) H locs ls rest ce q9 a9 b9 z9 hn9 hl9 hls9 hq9 hv9 hc9 ha9 hb9
          refine g_astore (r := some q) (env' := [(5, .ref q)]) X dL_answerOf_23 (by rw [hN]; decide) rfl ?_
          refine g_iconst (v := I 3) X dL_answerOf_25 rfl ?_
          exact h_iret X C hr rfl dL_answerOf_26 ha hb (hR9 n hn)
        · rw [if_neg e3] at hcd
          exact absurd hcd (by simp)
  have h62' := hk.ty62 h62
  refine g_aload (r := some (sv + 62)) 4 X dL_answerOf_0 rfl ?_
  refine g_iconst (v := I 0) X dL_answerOf_2 rfl ?_
  refine t_al 0 X dL_answerOf_3 rfl rfl ?_
  refine g_iload_n 1 X dL_answerOf_4 rfl rfl ?_
  refine g_iload_n 2 X dL_answerOf_5 rfl rfl ?_
  refine g_iload_n 3 X dL_answerOf_6 rfl rfl ?_
  refine p_callV (st := [.int (I 0), .ref (sv + 62)]) (q := sv) (av := [.int p0, .int p1, .int p2]) (T := T9) X hTp htr rfl h1 (M_X6_answerOf sv p0 p1 p2) lk_X6_answerOf im_X6_answerOf se_X6_answerOf (qW_at 1150 (by decide +kernel) rfl) rfl (by rw [hR]; exact ⟨Nat.le_of_ble_eq_true rfl, Nat.le_of_ble_eq_true rfl⟩) (by exact Nat.le_of_ble_eq_true rfl) (by rw [hR]; exact ⟨Nat.le_of_ble_eq_true rfl, Nat.le_of_ble_eq_true rfl⟩) dL_answerOf_7 (by rfl) ?_
  unfold qwp
  rw [hx]
  cases r with
  | error e => exact her e rfl
  | ok v =>
    show GG k _ (.int v :: .int (I 0) :: .ref (sv + 62) :: []) m1 _ _ _
    refine g_i2l X dL_answerOf_10 ?_
    refine g_last (q := sv + 62) (n := 1) X h62' (by intro q; rcases q with q | q <;> exact absurd q (by decide)) dL_answerOf_11 ?_
    rw [show (I 0).toNatClampNeg = 0 from by decide]
    refine g_goto (tgt := 27) X dL_answerOf_12 (by decide) ?_
    refine g_iconst (v := I 0) X dL_answerOf_27 rfl ?_
    exact h_iret X C hr rfl dL_answerOf_28 (by rw [hR]; exact Nat.le_of_ble_eq_true rfl) (by rw [hR]; exact Nat.le_of_ble_eq_true rfl) ((hok v rfl).2)
theorem dL_answerByLog_0 : decode cL_answerByLog 0 = .ok (.aload 4, 2) := by decide +kernel
theorem dL_answerByLog_2 : decode cL_answerByLog 2 = .ok (.iconst 0, 1) := by decide +kernel
theorem dL_answerByLog_3 : decode cL_answerByLog 3 = .ok (.aload_n 0, 1) := by decide +kernel
theorem dL_answerByLog_4 : decode cL_answerByLog 4 = .ok (.iload_n 1, 1) := by decide +kernel
theorem dL_answerByLog_5 : decode cL_answerByLog 5 = .ok (.iload_n 2, 1) := by decide +kernel
theorem dL_answerByLog_6 : decode cL_answerByLog 6 = .ok (.iload_n 3, 1) := by decide +kernel
theorem dL_answerByLog_7 : decode cL_answerByLog 7 = .ok (.invokevirtual 117, 3) := by decide +kernel
theorem dL_answerByLog_10 : decode cL_answerByLog 10 = .ok (.i2l, 1) := by decide +kernel
theorem dL_answerByLog_11 : decode cL_answerByLog 11 = .ok (.lastore, 1) := by decide +kernel
theorem dL_answerByLog_12 : decode cL_answerByLog 12 = .ok (.goto 15, 3) := by decide +kernel
theorem dL_answerByLog_15 : decode cL_answerByLog 15 = .ok (.astore 5, 2) := by decide +kernel
theorem dL_answerByLog_17 : decode cL_answerByLog 17 = .ok (.iconst 1, 1) := by decide +kernel
theorem dL_answerByLog_18 : decode cL_answerByLog 18 = .ok (.ireturn, 1) := by decide +kernel
theorem dL_answerByLog_19 : decode cL_answerByLog 19 = .ok (.astore 5, 2) := by decide +kernel
theorem dL_answerByLog_21 : decode cL_answerByLog 21 = .ok (.iconst 2, 1) := by decide +kernel
theorem dL_answerByLog_22 : decode cL_answerByLog 22 = .ok (.ireturn, 1) := by decide +kernel
theorem dL_answerByLog_23 : decode cL_answerByLog 23 = .ok (.astore 5, 2) := by decide +kernel
theorem dL_answerByLog_25 : decode cL_answerByLog 25 = .ok (.iconst 3, 1) := by decide +kernel
theorem dL_answerByLog_26 : decode cL_answerByLog 26 = .ok (.ireturn, 1) := by decide +kernel
theorem dL_answerByLog_27 : decode cL_answerByLog 27 = .ok (.iconst 0, 1) := by decide +kernel
theorem dL_answerByLog_28 : decode cL_answerByLog 28 = .ok (.ireturn, 1) := by decide +kernel
theorem lkh_answerByLog : LKH yL_answerByLog cL_answerByLog 6 (some .int) [(0, 12, 15, 13), (0, 12, 19, 15), (0, 12, 23, 31)] 5 := ⟨(qW_at 1160 (by decide +kernel) rfl), (qW_at 74 (by decide +kernel) rfl), by decide, by decide, by decide +kernel⟩
theorem stl_answerByLog : Cond.static yL_answerByLog ∈ qW := (qW_at 1159 (by decide +kernel) rfl)
set_option maxRecDepth 100000 in
set_option maxHeartbeats 1600000 in
theorem E_L_answerByLog (sv : Nat) (p0 p1 p2 : Int32) : MEH yL_answerByLog cL_answerByLog 6 (some .int) [(0, 12, 15, 13), (0, 12, 19, 15), (0, 12, 23, 31)] 9 147 4 24 (fun DA => [.ref sv, .int p0, .int p1, .int p2, .ref (sv + 62)]) (fun DA mm R => qty mm sv = (1, 7, 0) ∧ qty mm (sv + 62) = (3, 0, 1) ∧ ∃ r m1, F_X6_answerByLog sv p0 p1 p2 mm = some (r, m1) ∧ KP sv mm m1 ∧ (∀ v, r = .ok v → True ∧ R (.ok (some (.int (I 0)))) (sal m1 (sv + 62) 0 v.toInt64)) ∧ (∀ e0, r = .error e0 → ∃ cd, mpA e0 = some cd ∧ ∀ n, qtop m1 ≤ n → R (.ok (some (.int (I cd)))) (stop m1 n))) := by
  refine MEH_of (env0 := fun DA => [(0, .ref sv), (1, .int p0), (2, .int p1), (3, .int p2), (4, .ref (sv + 62))]) (by decide) (fun DA => by exact Nat.le_of_ble_eq_true rfl) (fun DA => by rfl) (fun k mm R X C hR hN hr hname hP => ?_)
  have X : CX k cL_answerByLog RL := X
  have htr := C.2.2.2.1
  obtain ⟨h1, h62, r, m1, hx, hk, hok, her⟩ := hP
  let T9 : Nat → QM → Prop := fun e m' => ∃ cd, mpA e = some cd ∧ ∀ n, qtop m' ≤ n → R (.ok (some (.int (I cd)))) (stop m' n)
  have hTp : THp k 7 T9 := by
    intro e mm9 H locs ls rest ce q9 a9 b9 hT9 z9 hn9 hl9 hls9 hq9 hv9 hc9 ha9 hb9
    obtain ⟨cd, hcd, hR9⟩ := hT9
    unfold mpA at hcd
    by_cases e1 : e = 1
    · subst e1
      have hcd : some (1 : Int) = some cd := hcd
      cases hcd
      refine t_catch (e := 1) (hh := [(0, 12, 15, 13), (0, 12, 19, 15), (0, 12, 23, 31)]) (pre := []) (suf := [(0, 12, 19, 15), (0, 12, 23, 31)]) X C.2.1 rfl (by decide) (by decide) (by decide) (qW_at 195 (by decide +kernel) rfl) (qN_at 207 (by decide +kernel) rfl) (fun z hz => absurd hz List.not_mem_nil) (fun q n a b hn ha hb => ?_) H locs ls rest ce q9 a9 b9 z9 hn9 hl9 hls9 hq9 hv9 hc9 ha9 hb9
      refine g_astore (r := some q) (env' := [(5, .ref q)]) X dL_answerByLog_15 (by rw [hN]; decide) rfl ?_
      refine g_iconst (v := I 1) X dL_answerByLog_17 rfl ?_
      exact h_iret X C hr rfl dL_answerByLog_18 ha hb (hR9 n hn)
    · rw [if_neg e1] at hcd
      by_cases e2 : e = 2
      · subst e2
        have hcd : some (2 : Int) = some cd := hcd
        cases hcd
        refine t_catch (e := 2) (hh := [(0, 12, 15, 13), (0, 12, 19, 15), (0, 12, 23, 31)]) (pre := [(0, 12, 15, 13)]) (suf := [(0, 12, 23, 31)]) X C.2.1 rfl (by decide) (by decide) (by decide) (qW_at 196 (by decide +kernel) rfl) (qN_at 276 (by decide +kernel) rfl) (fun z hz => by
          simp only [List.mem_cons, List.mem_nil_iff, or_false] at hz
          rcases hz with rfl
          · exact ⟨by decide, 1, by decide, by decide, (qW_at 195 (by decide +kernel) rfl)⟩) (fun q n a b hn ha hb => ?_) H locs ls rest ce q9 a9 b9 z9 hn9 hl9 hls9 hq9 hv9 hc9 ha9 hb9
        refine g_astore (r := some q) (env' := [(5, .ref q)]) X dL_answerByLog_19 (by rw [hN]; decide) rfl ?_
        refine g_iconst (v := I 2) X dL_answerByLog_21 rfl ?_
        exact h_iret X C hr rfl dL_answerByLog_22 ha hb (hR9 n hn)
      · rw [if_neg e2] at hcd
        by_cases e3 : e = 3
        · subst e3
          have hcd : some (3 : Int) = some cd := hcd
          cases hcd
          refine t_catch (e := 3) (hh := [(0, 12, 15, 13), (0, 12, 19, 15), (0, 12, 23, 31)]) (pre := [(0, 12, 15, 13), (0, 12, 19, 15)]) (suf := []) X C.2.1 rfl (by decide) (by decide) (by decide) (qW_at 334 (by decide +kernel) rfl) (qN_at 350 (by decide +kernel) rfl) (fun z hz => by
            simp only [List.mem_cons, List.mem_nil_iff, or_false] at hz
            rcases hz with rfl | rfl
            · exact ⟨by decide, 1, by decide, by decide, (qW_at 195 (by decide +kernel) rfl)⟩
            · exact ⟨by decide, 2, by decide, by decide, (qW_at 196 (by decide +kernel) rfl)⟩) (fun q n a b hn ha hb => ?_) H locs ls rest ce q9 a9 b9 z9 hn9 hl9 hls9 hq9 hv9 hc9 ha9 hb9
          refine g_astore (r := some q) (env' := [(5, .ref q)]) X dL_answerByLog_23 (by rw [hN]; decide) rfl ?_
          refine g_iconst (v := I 3) X dL_answerByLog_25 rfl ?_
          exact h_iret X C hr rfl dL_answerByLog_26 ha hb (hR9 n hn)
        · rw [if_neg e3] at hcd
          exact absurd hcd (by simp)
  have h62' := hk.ty62 h62
  refine g_aload (r := some (sv + 62)) 4 X dL_answerByLog_0 rfl ?_
  refine g_iconst (v := I 0) X dL_answerByLog_2 rfl ?_
  refine t_al 0 X dL_answerByLog_3 rfl rfl ?_
  refine g_iload_n 1 X dL_answerByLog_4 rfl rfl ?_
  refine g_iload_n 2 X dL_answerByLog_5 rfl rfl ?_
  refine g_iload_n 3 X dL_answerByLog_6 rfl rfl ?_
  refine p_callV (st := [.int (I 0), .ref (sv + 62)]) (q := sv) (av := [.int p0, .int p1, .int p2]) (T := T9) X hTp htr rfl h1 (M_X6_answerByLog sv p0 p1 p2) lk_X6_answerByLog im_X6_answerByLog se_X6_answerByLog (qW_at 1161 (by decide +kernel) rfl) rfl (by rw [hR]; exact ⟨Nat.le_of_ble_eq_true rfl, Nat.le_of_ble_eq_true rfl⟩) (by exact Nat.le_of_ble_eq_true rfl) (by rw [hR]; exact ⟨Nat.le_of_ble_eq_true rfl, Nat.le_of_ble_eq_true rfl⟩) dL_answerByLog_7 (by rfl) ?_
  unfold qwp
  rw [hx]
  cases r with
  | error e => exact her e rfl
  | ok v =>
    show GG k _ (.int v :: .int (I 0) :: .ref (sv + 62) :: []) m1 _ _ _
    refine g_i2l X dL_answerByLog_10 ?_
    refine g_last (q := sv + 62) (n := 1) X h62' (by intro q; rcases q with q | q <;> exact absurd q (by decide)) dL_answerByLog_11 ?_
    rw [show (I 0).toNatClampNeg = 0 from by decide]
    refine g_goto (tgt := 27) X dL_answerByLog_12 (by decide) ?_
    refine g_iconst (v := I 0) X dL_answerByLog_27 rfl ?_
    exact h_iret X C hr rfl dL_answerByLog_28 (by rw [hR]; exact Nat.le_of_ble_eq_true rfl) (by rw [hR]; exact Nat.le_of_ble_eq_true rfl) ((hok v rfl).2)
theorem dL_agrees_0 : decode cL_agrees 0 = .ok (.aload_n 2, 1) := by decide +kernel
theorem dL_agrees_1 : decode cL_agrees 1 = .ok (.iconst 0, 1) := by decide +kernel
theorem dL_agrees_2 : decode cL_agrees 2 = .ok (.aload_n 0, 1) := by decide +kernel
theorem dL_agrees_3 : decode cL_agrees 3 = .ok (.iload_n 1, 1) := by decide +kernel
theorem dL_agrees_4 : decode cL_agrees 4 = .ok (.invokevirtual 120, 3) := by decide +kernel
theorem dL_agrees_7 : decode cL_agrees 7 = .ok (.ifCond .eq 7, 3) := by decide +kernel
theorem dL_agrees_10 : decode cL_agrees 10 = .ok (.lconst 1, 1) := by decide +kernel
theorem dL_agrees_11 : decode cL_agrees 11 = .ok (.goto 4, 3) := by decide +kernel
theorem dL_agrees_14 : decode cL_agrees 14 = .ok (.lconst 0, 1) := by decide +kernel
theorem dL_agrees_15 : decode cL_agrees 15 = .ok (.lastore, 1) := by decide +kernel
theorem dL_agrees_16 : decode cL_agrees 16 = .ok (.goto 6, 3) := by decide +kernel
theorem dL_agrees_19 : decode cL_agrees 19 = .ok (.astore_n 3, 1) := by decide +kernel
theorem dL_agrees_20 : decode cL_agrees 20 = .ok (.iconst 1, 1) := by decide +kernel
theorem dL_agrees_21 : decode cL_agrees 21 = .ok (.ireturn, 1) := by decide +kernel
theorem dL_agrees_22 : decode cL_agrees 22 = .ok (.iconst 0, 1) := by decide +kernel
theorem dL_agrees_23 : decode cL_agrees 23 = .ok (.ireturn, 1) := by decide +kernel
theorem lkh_agrees : LKH yL_agrees cL_agrees 4 (some .int) [(0, 16, 19, 13)] 3 := ⟨(qW_at 1177 (by decide +kernel) rfl), (qW_at 74 (by decide +kernel) rfl), by decide, by decide, by decide +kernel⟩
theorem stl_agrees : Cond.static yL_agrees ∈ qW := (qW_at 1176 (by decide +kernel) rfl)
set_option maxRecDepth 100000 in
set_option maxHeartbeats 1600000 in
theorem E_L_agrees (sv : Nat) (p0 : Int32) : MEH yL_agrees cL_agrees 4 (some .int) [(0, 16, 19, 13)] 8 138 1 6 (fun DA => [.ref sv, .int p0, .ref (sv + 62)]) (fun DA mm R => qty mm sv = (1, 7, 0) ∧ qty mm (sv + 62) = (3, 0, 1) ∧ ∃ r m1, F_X6_agrees sv p0 mm = some (r, m1) ∧ KP sv mm m1 ∧ (∀ v, r = .ok v → (v = 0 ∨ v = 1) ∧ R (.ok (some (.int (I 0)))) (sal m1 (sv + 62) 0 v.toInt64)) ∧ (∀ e0, r = .error e0 → ∃ cd, mpD e0 = some cd ∧ ∀ n, qtop m1 ≤ n → R (.ok (some (.int (I cd)))) (stop m1 n))) := by
  refine MEH_of (env0 := fun DA => [(0, .ref sv), (1, .int p0), (2, .ref (sv + 62))]) (by decide) (fun DA => by exact Nat.le_of_ble_eq_true rfl) (fun DA => by rfl) (fun k mm R X C hR hN hr hname hP => ?_)
  have X : CX k cL_agrees RL := X
  have htr := C.2.2.2.1
  obtain ⟨h1, h62, r, m1, hx, hk, hok, her⟩ := hP
  let T9 : Nat → QM → Prop := fun e m' => ∃ cd, mpD e = some cd ∧ ∀ n, qtop m' ≤ n → R (.ok (some (.int (I cd)))) (stop m' n)
  have hTp : THp k 4 T9 := by
    intro e mm9 H locs ls rest ce q9 a9 b9 hT9 z9 hn9 hl9 hls9 hq9 hv9 hc9 ha9 hb9
    obtain ⟨cd, hcd, hR9⟩ := hT9
    unfold mpD at hcd
    by_cases e1 : e = 1
    · subst e1
      have hcd : some (1 : Int) = some cd := hcd
      cases hcd
      refine t_catch (e := 1) (hh := [(0, 16, 19, 13)]) (pre := []) (suf := []) X C.2.1 rfl (by decide) (by decide) (by decide) (qW_at 195 (by decide +kernel) rfl) (qN_at 207 (by decide +kernel) rfl) (fun z hz => absurd hz List.not_mem_nil) (fun q n a b hn ha hb => ?_) H locs ls rest ce q9 a9 b9 z9 hn9 hl9 hls9 hq9 hv9 hc9 ha9 hb9
      refine t_as (env' := [(3, .ref q)]) X dL_agrees_19 rfl (by rw [hN]; decide) rfl ?_
      refine g_iconst (v := I 1) X dL_agrees_20 rfl ?_
      exact h_iret X C hr rfl dL_agrees_21 ha hb (hR9 n hn)
    · rw [if_neg e1] at hcd
      exact absurd hcd (by simp)
  have h62' := hk.ty62 h62
  refine t_al 2 X dL_agrees_0 rfl rfl ?_
  refine g_iconst (v := I 0) X dL_agrees_1 rfl ?_
  refine t_al 0 X dL_agrees_2 rfl rfl ?_
  refine g_iload_n 1 X dL_agrees_3 rfl rfl ?_
  refine p_callV (st := [.int (I 0), .ref (sv + 62)]) (q := sv) (av := [.int p0]) (T := T9) X hTp htr rfl h1 (M_X6_agrees sv p0) lk_X6_agrees im_X6_agrees se_X6_agrees (qW_at 1178 (by decide +kernel) rfl) rfl (by rw [hR]; exact ⟨Nat.le_of_ble_eq_true rfl, Nat.le_of_ble_eq_true rfl⟩) (by exact Nat.le_of_ble_eq_true rfl) (by rw [hR]; exact ⟨Nat.le_of_ble_eq_true rfl, Nat.le_of_ble_eq_true rfl⟩) dL_agrees_4 (by rfl) ?_
  unfold qwp
  rw [hx]
  cases r with
  | error e => exact her e rfl
  | ok v =>
    show GG k _ (.int v :: .int (I 0) :: .ref (sv + 62) :: []) m1 _ _ _
    rcases (hok v rfl).1 with rfl | rfl
    · refine t_eqT (tgt := 14) X dL_agrees_7 (by decide) rfl ?_
      refine g_lconst (v := (0 : Int32).toInt64) X dL_agrees_14 (by decide) ?_
      refine g_last (q := sv + 62) (n := 1) X h62' (by intro q; rcases q with q | q <;> exact absurd q (by decide)) dL_agrees_15 ?_
      rw [show (I 0).toNatClampNeg = 0 from by decide]
      refine g_goto (tgt := 22) X dL_agrees_16 (by decide) ?_
      refine g_iconst (v := I 0) X dL_agrees_22 rfl ?_
      exact h_iret X C hr rfl dL_agrees_23 (by rw [hR]; exact Nat.le_of_ble_eq_true rfl) (by rw [hR]; exact Nat.le_of_ble_eq_true rfl) ((hok _ rfl).2)
    · refine t_eqF 14 X dL_agrees_7 (by decide) (by decide) ?_
      refine g_lconst (v := (1 : Int32).toInt64) X dL_agrees_10 (by decide) ?_
      refine g_goto (tgt := 15) X dL_agrees_11 (by decide) ?_
      refine g_last (q := sv + 62) (n := 1) X h62' (by intro q; rcases q with q | q <;> exact absurd q (by decide)) dL_agrees_15 ?_
      rw [show (I 0).toNatClampNeg = 0 from by decide]
      refine g_goto (tgt := 22) X dL_agrees_16 (by decide) ?_
      refine g_iconst (v := I 0) X dL_agrees_22 rfl ?_
      exact h_iret X C hr rfl dL_agrees_23 (by rw [hR]; exact Nat.le_of_ble_eq_true rfl) (by rw [hR]; exact Nat.le_of_ble_eq_true rfl) ((hok _ rfl).2)
theorem dL_proposals_0 : decode cL_proposals 0 = .ok (.aload_n 2, 1) := by decide +kernel
theorem dL_proposals_1 : decode cL_proposals 1 = .ok (.iconst 0, 1) := by decide +kernel
theorem dL_proposals_2 : decode cL_proposals 2 = .ok (.aload_n 0, 1) := by decide +kernel
theorem dL_proposals_3 : decode cL_proposals 3 = .ok (.iload_n 1, 1) := by decide +kernel
theorem dL_proposals_4 : decode cL_proposals 4 = .ok (.invokevirtual 123, 3) := by decide +kernel
theorem dL_proposals_7 : decode cL_proposals 7 = .ok (.i2l, 1) := by decide +kernel
theorem dL_proposals_8 : decode cL_proposals 8 = .ok (.lastore, 1) := by decide +kernel
theorem dL_proposals_9 : decode cL_proposals 9 = .ok (.goto 6, 3) := by decide +kernel
theorem dL_proposals_12 : decode cL_proposals 12 = .ok (.astore_n 3, 1) := by decide +kernel
theorem dL_proposals_13 : decode cL_proposals 13 = .ok (.iconst 1, 1) := by decide +kernel
theorem dL_proposals_14 : decode cL_proposals 14 = .ok (.ireturn, 1) := by decide +kernel
theorem dL_proposals_15 : decode cL_proposals 15 = .ok (.iconst 0, 1) := by decide +kernel
theorem dL_proposals_16 : decode cL_proposals 16 = .ok (.ireturn, 1) := by decide +kernel
theorem lkh_proposals : LKH yL_proposals cL_proposals 4 (some .int) [(0, 9, 12, 13)] 3 := ⟨(qW_at 1191 (by decide +kernel) rfl), (qW_at 74 (by decide +kernel) rfl), by decide, by decide, by decide +kernel⟩
theorem stl_proposals : Cond.static yL_proposals ∈ qW := (qW_at 1190 (by decide +kernel) rfl)
set_option maxRecDepth 100000 in
set_option maxHeartbeats 1600000 in
theorem E_L_proposals (sv : Nat) (p0 : Int32) : MEH yL_proposals cL_proposals 4 (some .int) [(0, 9, 12, 13)] 8 123 1 6 (fun DA => [.ref sv, .int p0, .ref (sv + 62)]) (fun DA mm R => qty mm sv = (1, 7, 0) ∧ qty mm (sv + 62) = (3, 0, 1) ∧ ∃ r m1, F_X6_proposals sv p0 mm = some (r, m1) ∧ KP sv mm m1 ∧ (∀ v, r = .ok v → True ∧ R (.ok (some (.int (I 0)))) (sal m1 (sv + 62) 0 v.toInt64)) ∧ (∀ e0, r = .error e0 → ∃ cd, mpD e0 = some cd ∧ ∀ n, qtop m1 ≤ n → R (.ok (some (.int (I cd)))) (stop m1 n))) := by
  refine MEH_of (env0 := fun DA => [(0, .ref sv), (1, .int p0), (2, .ref (sv + 62))]) (by decide) (fun DA => by exact Nat.le_of_ble_eq_true rfl) (fun DA => by rfl) (fun k mm R X C hR hN hr hname hP => ?_)
  have X : CX k cL_proposals RL := X
  have htr := C.2.2.2.1
  obtain ⟨h1, h62, r, m1, hx, hk, hok, her⟩ := hP
  let T9 : Nat → QM → Prop := fun e m' => ∃ cd, mpD e = some cd ∧ ∀ n, qtop m' ≤ n → R (.ok (some (.int (I cd)))) (stop m' n)
  have hTp : THp k 4 T9 := by
    intro e mm9 H locs ls rest ce q9 a9 b9 hT9 z9 hn9 hl9 hls9 hq9 hv9 hc9 ha9 hb9
    obtain ⟨cd, hcd, hR9⟩ := hT9
    unfold mpD at hcd
    by_cases e1 : e = 1
    · subst e1
      have hcd : some (1 : Int) = some cd := hcd
      cases hcd
      refine t_catch (e := 1) (hh := [(0, 9, 12, 13)]) (pre := []) (suf := []) X C.2.1 rfl (by decide) (by decide) (by decide) (qW_at 195 (by decide +kernel) rfl) (qN_at 207 (by decide +kernel) rfl) (fun z hz => absurd hz List.not_mem_nil) (fun q n a b hn ha hb => ?_) H locs ls rest ce q9 a9 b9 z9 hn9 hl9 hls9 hq9 hv9 hc9 ha9 hb9
      refine t_as (env' := [(3, .ref q)]) X dL_proposals_12 rfl (by rw [hN]; decide) rfl ?_
      refine g_iconst (v := I 1) X dL_proposals_13 rfl ?_
      exact h_iret X C hr rfl dL_proposals_14 ha hb (hR9 n hn)
    · rw [if_neg e1] at hcd
      exact absurd hcd (by simp)
  have h62' := hk.ty62 h62
  refine t_al 2 X dL_proposals_0 rfl rfl ?_
  refine g_iconst (v := I 0) X dL_proposals_1 rfl ?_
  refine t_al 0 X dL_proposals_2 rfl rfl ?_
  refine g_iload_n 1 X dL_proposals_3 rfl rfl ?_
  refine p_callV (st := [.int (I 0), .ref (sv + 62)]) (q := sv) (av := [.int p0]) (T := T9) X hTp htr rfl h1 (M_X6_proposals sv p0) lk_X6_proposals im_X6_proposals se_X6_proposals (qW_at 1192 (by decide +kernel) rfl) rfl (by rw [hR]; exact ⟨Nat.le_of_ble_eq_true rfl, Nat.le_of_ble_eq_true rfl⟩) (by exact Nat.le_of_ble_eq_true rfl) (by rw [hR]; exact ⟨Nat.le_of_ble_eq_true rfl, Nat.le_of_ble_eq_true rfl⟩) dL_proposals_4 (by rfl) ?_
  unfold qwp
  rw [hx]
  cases r with
  | error e => exact her e rfl
  | ok v =>
    show GG k _ (.int v :: .int (I 0) :: .ref (sv + 62) :: []) m1 _ _ _
    refine g_i2l X dL_proposals_7 ?_
    refine g_last (q := sv + 62) (n := 1) X h62' (by intro q; rcases q with q | q <;> exact absurd q (by decide)) dL_proposals_8 ?_
    rw [show (I 0).toNatClampNeg = 0 from by decide]
    refine g_goto (tgt := 15) X dL_proposals_9 (by decide) ?_
    refine g_iconst (v := I 0) X dL_proposals_15 rfl ?_
    exact h_iret X C hr rfl dL_proposals_16 (by rw [hR]; exact Nat.le_of_ble_eq_true rfl) (by rw [hR]; exact Nat.le_of_ble_eq_true rfl) ((hok v rfl).2)
theorem dL_proposalAt_0 : decode cL_proposalAt 0 = .ok (.aload_n 3, 1) := by decide +kernel
theorem dL_proposalAt_1 : decode cL_proposalAt 1 = .ok (.iconst 0, 1) := by decide +kernel
theorem dL_proposalAt_2 : decode cL_proposalAt 2 = .ok (.aload_n 0, 1) := by decide +kernel
theorem dL_proposalAt_3 : decode cL_proposalAt 3 = .ok (.iload_n 1, 1) := by decide +kernel
theorem dL_proposalAt_4 : decode cL_proposalAt 4 = .ok (.iload_n 2, 1) := by decide +kernel
theorem dL_proposalAt_5 : decode cL_proposalAt 5 = .ok (.invokevirtual 126, 3) := by decide +kernel
theorem dL_proposalAt_8 : decode cL_proposalAt 8 = .ok (.i2l, 1) := by decide +kernel
theorem dL_proposalAt_9 : decode cL_proposalAt 9 = .ok (.lastore, 1) := by decide +kernel
theorem dL_proposalAt_10 : decode cL_proposalAt 10 = .ok (.goto 7, 3) := by decide +kernel
theorem dL_proposalAt_13 : decode cL_proposalAt 13 = .ok (.astore 4, 2) := by decide +kernel
theorem dL_proposalAt_15 : decode cL_proposalAt 15 = .ok (.iconst 1, 1) := by decide +kernel
theorem dL_proposalAt_16 : decode cL_proposalAt 16 = .ok (.ireturn, 1) := by decide +kernel
theorem dL_proposalAt_17 : decode cL_proposalAt 17 = .ok (.iconst 0, 1) := by decide +kernel
theorem dL_proposalAt_18 : decode cL_proposalAt 18 = .ok (.ireturn, 1) := by decide +kernel
theorem lkh_proposalAt : LKH yL_proposalAt cL_proposalAt 5 (some .int) [(0, 10, 13, 13)] 4 := ⟨(qW_at 1198 (by decide +kernel) rfl), (qW_at 74 (by decide +kernel) rfl), by decide, by decide, by decide +kernel⟩
theorem stl_proposalAt : Cond.static yL_proposalAt ∈ qW := (qW_at 1197 (by decide +kernel) rfl)
set_option maxRecDepth 100000 in
set_option maxHeartbeats 1600000 in
theorem E_L_proposalAt (sv : Nat) (p0 p1 : Int32) : MEH yL_proposalAt cL_proposalAt 5 (some .int) [(0, 10, 13, 13)] 8 129 2 12 (fun DA => [.ref sv, .int p0, .int p1, .ref (sv + 62)]) (fun DA mm R => qty mm sv = (1, 7, 0) ∧ qty mm (sv + 62) = (3, 0, 1) ∧ ∃ r m1, F_X6_proposalAt sv p0 p1 mm = some (r, m1) ∧ KP sv mm m1 ∧ (∀ v, r = .ok v → True ∧ R (.ok (some (.int (I 0)))) (sal m1 (sv + 62) 0 v.toInt64)) ∧ (∀ e0, r = .error e0 → ∃ cd, mpD e0 = some cd ∧ ∀ n, qtop m1 ≤ n → R (.ok (some (.int (I cd)))) (stop m1 n))) := by
  refine MEH_of (env0 := fun DA => [(0, .ref sv), (1, .int p0), (2, .int p1), (3, .ref (sv + 62))]) (by decide) (fun DA => by exact Nat.le_of_ble_eq_true rfl) (fun DA => by rfl) (fun k mm R X C hR hN hr hname hP => ?_)
  have X : CX k cL_proposalAt RL := X
  have htr := C.2.2.2.1
  obtain ⟨h1, h62, r, m1, hx, hk, hok, her⟩ := hP
  let T9 : Nat → QM → Prop := fun e m' => ∃ cd, mpD e = some cd ∧ ∀ n, qtop m' ≤ n → R (.ok (some (.int (I cd)))) (stop m' n)
  have hTp : THp k 5 T9 := by
    intro e mm9 H locs ls rest ce q9 a9 b9 hT9 z9 hn9 hl9 hls9 hq9 hv9 hc9 ha9 hb9
    obtain ⟨cd, hcd, hR9⟩ := hT9
    unfold mpD at hcd
    by_cases e1 : e = 1
    · subst e1
      have hcd : some (1 : Int) = some cd := hcd
      cases hcd
      refine t_catch (e := 1) (hh := [(0, 10, 13, 13)]) (pre := []) (suf := []) X C.2.1 rfl (by decide) (by decide) (by decide) (qW_at 195 (by decide +kernel) rfl) (qN_at 207 (by decide +kernel) rfl) (fun z hz => absurd hz List.not_mem_nil) (fun q n a b hn ha hb => ?_) H locs ls rest ce q9 a9 b9 z9 hn9 hl9 hls9 hq9 hv9 hc9 ha9 hb9
      refine g_astore (r := some q) (env' := [(4, .ref q)]) X dL_proposalAt_13 (by rw [hN]; decide) rfl ?_
      refine g_iconst (v := I 1) X dL_proposalAt_15 rfl ?_
      exact h_iret X C hr rfl dL_proposalAt_16 ha hb (hR9 n hn)
    · rw [if_neg e1] at hcd
      exact absurd hcd (by simp)
  have h62' := hk.ty62 h62
  refine t_al 3 X dL_proposalAt_0 rfl rfl ?_
  refine g_iconst (v := I 0) X dL_proposalAt_1 rfl ?_
  refine t_al 0 X dL_proposalAt_2 rfl rfl ?_
  refine g_iload_n 1 X dL_proposalAt_3 rfl rfl ?_
  refine g_iload_n 2 X dL_proposalAt_4 rfl rfl ?_
  refine p_callV (st := [.int (I 0), .ref (sv + 62)]) (q := sv) (av := [.int p0, .int p1]) (T := T9) X hTp htr rfl h1 (M_X6_proposalAt sv p0 p1) lk_X6_proposalAt im_X6_proposalAt se_X6_proposalAt (qW_at 1199 (by decide +kernel) rfl) rfl (by rw [hR]; exact ⟨Nat.le_of_ble_eq_true rfl, Nat.le_of_ble_eq_true rfl⟩) (by exact Nat.le_of_ble_eq_true rfl) (by rw [hR]; exact ⟨Nat.le_of_ble_eq_true rfl, Nat.le_of_ble_eq_true rfl⟩) dL_proposalAt_5 (by rfl) ?_
  unfold qwp
  rw [hx]
  cases r with
  | error e => exact her e rfl
  | ok v =>
    show GG k _ (.int v :: .int (I 0) :: .ref (sv + 62) :: []) m1 _ _ _
    refine g_i2l X dL_proposalAt_8 ?_
    refine g_last (q := sv + 62) (n := 1) X h62' (by intro q; rcases q with q | q <;> exact absurd q (by decide)) dL_proposalAt_9 ?_
    rw [show (I 0).toNatClampNeg = 0 from by decide]
    refine g_goto (tgt := 17) X dL_proposalAt_10 (by decide) ?_
    refine g_iconst (v := I 0) X dL_proposalAt_17 rfl ?_
    exact h_iret X C hr rfl dL_proposalAt_18 (by rw [hR]; exact Nat.le_of_ble_eq_true rfl) (by rw [hR]; exact Nat.le_of_ble_eq_true rfl) ((hok v rfl).2)
theorem dL_rank_0 : decode cL_rank 0 = .ok (.aload_n 3, 1) := by decide +kernel
theorem dL_rank_1 : decode cL_rank 1 = .ok (.iconst 0, 1) := by decide +kernel
theorem dL_rank_2 : decode cL_rank 2 = .ok (.aload_n 0, 1) := by decide +kernel
theorem dL_rank_3 : decode cL_rank 3 = .ok (.iload_n 1, 1) := by decide +kernel
theorem dL_rank_4 : decode cL_rank 4 = .ok (.iload_n 2, 1) := by decide +kernel
theorem dL_rank_5 : decode cL_rank 5 = .ok (.invokevirtual 129, 3) := by decide +kernel
theorem dL_rank_8 : decode cL_rank 8 = .ok (.i2l, 1) := by decide +kernel
theorem dL_rank_9 : decode cL_rank 9 = .ok (.lastore, 1) := by decide +kernel
theorem dL_rank_10 : decode cL_rank 10 = .ok (.goto 11, 3) := by decide +kernel
theorem dL_rank_13 : decode cL_rank 13 = .ok (.astore 4, 2) := by decide +kernel
theorem dL_rank_15 : decode cL_rank 15 = .ok (.iconst 1, 1) := by decide +kernel
theorem dL_rank_16 : decode cL_rank 16 = .ok (.ireturn, 1) := by decide +kernel
theorem dL_rank_17 : decode cL_rank 17 = .ok (.astore 4, 2) := by decide +kernel
theorem dL_rank_19 : decode cL_rank 19 = .ok (.iconst 2, 1) := by decide +kernel
theorem dL_rank_20 : decode cL_rank 20 = .ok (.ireturn, 1) := by decide +kernel
theorem dL_rank_21 : decode cL_rank 21 = .ok (.iconst 0, 1) := by decide +kernel
theorem dL_rank_22 : decode cL_rank 22 = .ok (.ireturn, 1) := by decide +kernel
theorem lkh_rank : LKH yL_rank cL_rank 5 (some .int) [(0, 10, 13, 13), (0, 10, 17, 15)] 4 := ⟨(qW_at 1205 (by decide +kernel) rfl), (qW_at 74 (by decide +kernel) rfl), by decide, by decide, by decide +kernel⟩
theorem stl_rank : Cond.static yL_rank ∈ qW := (qW_at 1204 (by decide +kernel) rfl)
set_option maxRecDepth 100000 in
set_option maxHeartbeats 1600000 in
theorem E_L_rank (sv : Nat) (p0 p1 : Int32) : MEH yL_rank cL_rank 5 (some .int) [(0, 10, 13, 13), (0, 10, 17, 15)] 9 147 2 12 (fun DA => [.ref sv, .int p0, .int p1, .ref (sv + 62)]) (fun DA mm R => qty mm sv = (1, 7, 0) ∧ qty mm (sv + 62) = (3, 0, 1) ∧ ∃ r m1, F_X6_rank sv p0 p1 mm = some (r, m1) ∧ KP sv mm m1 ∧ (∀ v, r = .ok v → True ∧ R (.ok (some (.int (I 0)))) (sal m1 (sv + 62) 0 v.toInt64)) ∧ (∀ e0, r = .error e0 → ∃ cd, mpB e0 = some cd ∧ ∀ n, qtop m1 ≤ n → R (.ok (some (.int (I cd)))) (stop m1 n))) := by
  refine MEH_of (env0 := fun DA => [(0, .ref sv), (1, .int p0), (2, .int p1), (3, .ref (sv + 62))]) (by decide) (fun DA => by exact Nat.le_of_ble_eq_true rfl) (fun DA => by rfl) (fun k mm R X C hR hN hr hname hP => ?_)
  have X : CX k cL_rank RL := X
  have htr := C.2.2.2.1
  obtain ⟨h1, h62, r, m1, hx, hk, hok, her⟩ := hP
  let T9 : Nat → QM → Prop := fun e m' => ∃ cd, mpB e = some cd ∧ ∀ n, qtop m' ≤ n → R (.ok (some (.int (I cd)))) (stop m' n)
  have hTp : THp k 5 T9 := by
    intro e mm9 H locs ls rest ce q9 a9 b9 hT9 z9 hn9 hl9 hls9 hq9 hv9 hc9 ha9 hb9
    obtain ⟨cd, hcd, hR9⟩ := hT9
    unfold mpB at hcd
    by_cases e1 : e = 1
    · subst e1
      have hcd : some (1 : Int) = some cd := hcd
      cases hcd
      refine t_catch (e := 1) (hh := [(0, 10, 13, 13), (0, 10, 17, 15)]) (pre := []) (suf := [(0, 10, 17, 15)]) X C.2.1 rfl (by decide) (by decide) (by decide) (qW_at 195 (by decide +kernel) rfl) (qN_at 207 (by decide +kernel) rfl) (fun z hz => absurd hz List.not_mem_nil) (fun q n a b hn ha hb => ?_) H locs ls rest ce q9 a9 b9 z9 hn9 hl9 hls9 hq9 hv9 hc9 ha9 hb9
      refine g_astore (r := some q) (env' := [(4, .ref q)]) X dL_rank_13 (by rw [hN]; decide) rfl ?_
      refine g_iconst (v := I 1) X dL_rank_15 rfl ?_
      exact h_iret X C hr rfl dL_rank_16 ha hb (hR9 n hn)
    · rw [if_neg e1] at hcd
      by_cases e2 : e = 2
      · subst e2
        have hcd : some (2 : Int) = some cd := hcd
        cases hcd
        refine t_catch (e := 2) (hh := [(0, 10, 13, 13), (0, 10, 17, 15)]) (pre := [(0, 10, 13, 13)]) (suf := []) X C.2.1 rfl (by decide) (by decide) (by decide) (qW_at 196 (by decide +kernel) rfl) (qN_at 276 (by decide +kernel) rfl) (fun z hz => by
          simp only [List.mem_cons, List.mem_nil_iff, or_false] at hz
          rcases hz with rfl
          · exact ⟨by decide, 1, by decide, by decide, (qW_at 195 (by decide +kernel) rfl)⟩) (fun q n a b hn ha hb => ?_) H locs ls rest ce q9 a9 b9 z9 hn9 hl9 hls9 hq9 hv9 hc9 ha9 hb9
        refine g_astore (r := some q) (env' := [(4, .ref q)]) X dL_rank_17 (by rw [hN]; decide) rfl ?_
        refine g_iconst (v := I 2) X dL_rank_19 rfl ?_
        exact h_iret X C hr rfl dL_rank_20 ha hb (hR9 n hn)
      · rw [if_neg e2] at hcd
        exact absurd hcd (by simp)
  have h62' := hk.ty62 h62
  refine t_al 3 X dL_rank_0 rfl rfl ?_
  refine g_iconst (v := I 0) X dL_rank_1 rfl ?_
  refine t_al 0 X dL_rank_2 rfl rfl ?_
  refine g_iload_n 1 X dL_rank_3 rfl rfl ?_
  refine g_iload_n 2 X dL_rank_4 rfl rfl ?_
  refine p_callV (st := [.int (I 0), .ref (sv + 62)]) (q := sv) (av := [.int p0, .int p1]) (T := T9) X hTp htr rfl h1 (M_X6_rank sv p0 p1) lk_X6_rank im_X6_rank se_X6_rank (qW_at 1206 (by decide +kernel) rfl) rfl (by rw [hR]; exact ⟨Nat.le_of_ble_eq_true rfl, Nat.le_of_ble_eq_true rfl⟩) (by exact Nat.le_of_ble_eq_true rfl) (by rw [hR]; exact ⟨Nat.le_of_ble_eq_true rfl, Nat.le_of_ble_eq_true rfl⟩) dL_rank_5 (by rfl) ?_
  unfold qwp
  rw [hx]
  cases r with
  | error e => exact her e rfl
  | ok v =>
    show GG k _ (.int v :: .int (I 0) :: .ref (sv + 62) :: []) m1 _ _ _
    refine g_i2l X dL_rank_8 ?_
    refine g_last (q := sv + 62) (n := 1) X h62' (by intro q; rcases q with q | q <;> exact absurd q (by decide)) dL_rank_9 ?_
    rw [show (I 0).toNatClampNeg = 0 from by decide]
    refine g_goto (tgt := 21) X dL_rank_10 (by decide) ?_
    refine g_iconst (v := I 0) X dL_rank_21 rfl ?_
    exact h_iret X C hr rfl dL_rank_22 (by rw [hR]; exact Nat.le_of_ble_eq_true rfl) (by rw [hR]; exact Nat.le_of_ble_eq_true rfl) ((hok v rfl).2)
theorem dL_firstFree_0 : decode cL_firstFree 0 = .ok (.aload 4, 2) := by decide +kernel
theorem dL_firstFree_2 : decode cL_firstFree 2 = .ok (.iconst 0, 1) := by decide +kernel
theorem dL_firstFree_3 : decode cL_firstFree 3 = .ok (.aload_n 0, 1) := by decide +kernel
theorem dL_firstFree_4 : decode cL_firstFree 4 = .ok (.iload_n 1, 1) := by decide +kernel
theorem dL_firstFree_5 : decode cL_firstFree 5 = .ok (.iload_n 2, 1) := by decide +kernel
theorem dL_firstFree_6 : decode cL_firstFree 6 = .ok (.iload_n 3, 1) := by decide +kernel
theorem dL_firstFree_7 : decode cL_firstFree 7 = .ok (.invokevirtual 132, 3) := by decide +kernel
theorem dL_firstFree_10 : decode cL_firstFree 10 = .ok (.i2l, 1) := by decide +kernel
theorem dL_firstFree_11 : decode cL_firstFree 11 = .ok (.lastore, 1) := by decide +kernel
theorem dL_firstFree_12 : decode cL_firstFree 12 = .ok (.goto 7, 3) := by decide +kernel
theorem dL_firstFree_15 : decode cL_firstFree 15 = .ok (.astore 5, 2) := by decide +kernel
theorem dL_firstFree_17 : decode cL_firstFree 17 = .ok (.iconst 1, 1) := by decide +kernel
theorem dL_firstFree_18 : decode cL_firstFree 18 = .ok (.ireturn, 1) := by decide +kernel
theorem dL_firstFree_19 : decode cL_firstFree 19 = .ok (.iconst 0, 1) := by decide +kernel
theorem dL_firstFree_20 : decode cL_firstFree 20 = .ok (.ireturn, 1) := by decide +kernel
theorem lkh_firstFree : LKH yL_firstFree cL_firstFree 6 (some .int) [(0, 12, 15, 15)] 5 := ⟨(qW_at 1221 (by decide +kernel) rfl), (qW_at 74 (by decide +kernel) rfl), by decide, by decide, by decide +kernel⟩
theorem stl_firstFree : Cond.static yL_firstFree ∈ qW := (qW_at 1220 (by decide +kernel) rfl)
set_option maxRecDepth 100000 in
set_option maxHeartbeats 1600000 in
theorem E_L_firstFree (sv : Nat) (p0 p1 p2 : Int32) : MEH yL_firstFree cL_firstFree 6 (some .int) [(0, 12, 15, 15)] 10 172 3 18 (fun DA => [.ref sv, .int p0, .int p1, .int p2, .ref (sv + 62)]) (fun DA mm R => qty mm sv = (1, 7, 0) ∧ qty mm (sv + 62) = (3, 0, 1) ∧ ∃ r m1, F_X6_firstFree sv p0 p1 p2 mm = some (r, m1) ∧ KP sv mm m1 ∧ (∀ v, r = .ok v → True ∧ R (.ok (some (.int (I 0)))) (sal m1 (sv + 62) 0 v.toInt64)) ∧ (∀ e0, r = .error e0 → ∃ cd, mpE e0 = some cd ∧ ∀ n, qtop m1 ≤ n → R (.ok (some (.int (I cd)))) (stop m1 n))) := by
  refine MEH_of (env0 := fun DA => [(0, .ref sv), (1, .int p0), (2, .int p1), (3, .int p2), (4, .ref (sv + 62))]) (by decide) (fun DA => by exact Nat.le_of_ble_eq_true rfl) (fun DA => by rfl) (fun k mm R X C hR hN hr hname hP => ?_)
  have X : CX k cL_firstFree RL := X
  have htr := C.2.2.2.1
  obtain ⟨h1, h62, r, m1, hx, hk, hok, her⟩ := hP
  let T9 : Nat → QM → Prop := fun e m' => ∃ cd, mpE e = some cd ∧ ∀ n, qtop m' ≤ n → R (.ok (some (.int (I cd)))) (stop m' n)
  have hTp : THp k 7 T9 := by
    intro e mm9 H locs ls rest ce q9 a9 b9 hT9 z9 hn9 hl9 hls9 hq9 hv9 hc9 ha9 hb9
    obtain ⟨cd, hcd, hR9⟩ := hT9
    unfold mpE at hcd
    by_cases e2 : e = 2
    · subst e2
      have hcd : some (1 : Int) = some cd := hcd
      cases hcd
      refine t_catch (e := 2) (hh := [(0, 12, 15, 15)]) (pre := []) (suf := []) X C.2.1 rfl (by decide) (by decide) (by decide) (qW_at 196 (by decide +kernel) rfl) (qN_at 276 (by decide +kernel) rfl) (fun z hz => absurd hz List.not_mem_nil) (fun q n a b hn ha hb => ?_) H locs ls rest ce q9 a9 b9 z9 hn9 hl9 hls9 hq9 hv9 hc9 ha9 hb9
      refine g_astore (r := some q) (env' := [(5, .ref q)]) X dL_firstFree_15 (by rw [hN]; decide) rfl ?_
      refine g_iconst (v := I 1) X dL_firstFree_17 rfl ?_
      exact h_iret X C hr rfl dL_firstFree_18 ha hb (hR9 n hn)
    · rw [if_neg e2] at hcd
      exact absurd hcd (by simp)
  have h62' := hk.ty62 h62
  refine g_aload (r := some (sv + 62)) 4 X dL_firstFree_0 rfl ?_
  refine g_iconst (v := I 0) X dL_firstFree_2 rfl ?_
  refine t_al 0 X dL_firstFree_3 rfl rfl ?_
  refine g_iload_n 1 X dL_firstFree_4 rfl rfl ?_
  refine g_iload_n 2 X dL_firstFree_5 rfl rfl ?_
  refine g_iload_n 3 X dL_firstFree_6 rfl rfl ?_
  refine p_callV (st := [.int (I 0), .ref (sv + 62)]) (q := sv) (av := [.int p0, .int p1, .int p2]) (T := T9) X hTp htr rfl h1 (M_X6_firstFree sv p0 p1 p2) lk_X6_firstFree im_X6_firstFree se_X6_firstFree (qW_at 1222 (by decide +kernel) rfl) rfl (by rw [hR]; exact ⟨Nat.le_of_ble_eq_true rfl, Nat.le_of_ble_eq_true rfl⟩) (by exact Nat.le_of_ble_eq_true rfl) (by rw [hR]; exact ⟨Nat.le_of_ble_eq_true rfl, Nat.le_of_ble_eq_true rfl⟩) dL_firstFree_7 (by rfl) ?_
  unfold qwp
  rw [hx]
  cases r with
  | error e => exact her e rfl
  | ok v =>
    show GG k _ (.int v :: .int (I 0) :: .ref (sv + 62) :: []) m1 _ _ _
    refine g_i2l X dL_firstFree_10 ?_
    refine g_last (q := sv + 62) (n := 1) X h62' (by intro q; rcases q with q | q <;> exact absurd q (by decide)) dL_firstFree_11 ?_
    rw [show (I 0).toNatClampNeg = 0 from by decide]
    refine g_goto (tgt := 19) X dL_firstFree_12 (by decide) ?_
    refine g_iconst (v := I 0) X dL_firstFree_19 rfl ?_
    exact h_iret X C hr rfl dL_firstFree_20 (by rw [hR]; exact Nat.le_of_ble_eq_true rfl) (by rw [hR]; exact Nat.le_of_ble_eq_true rfl) ((hok v rfl).2)
theorem dL_firstFreeByHours_0 : decode cL_firstFreeByHours 0 = .ok (.aload 4, 2) := by decide +kernel
theorem dL_firstFreeByHours_2 : decode cL_firstFreeByHours 2 = .ok (.iconst 0, 1) := by decide +kernel
theorem dL_firstFreeByHours_3 : decode cL_firstFreeByHours 3 = .ok (.aload_n 0, 1) := by decide +kernel
theorem dL_firstFreeByHours_4 : decode cL_firstFreeByHours 4 = .ok (.iload_n 1, 1) := by decide +kernel
theorem dL_firstFreeByHours_5 : decode cL_firstFreeByHours 5 = .ok (.iload_n 2, 1) := by decide +kernel
theorem dL_firstFreeByHours_6 : decode cL_firstFreeByHours 6 = .ok (.iload_n 3, 1) := by decide +kernel
theorem dL_firstFreeByHours_7 : decode cL_firstFreeByHours 7 = .ok (.invokevirtual 135, 3) := by decide +kernel
theorem dL_firstFreeByHours_10 : decode cL_firstFreeByHours 10 = .ok (.i2l, 1) := by decide +kernel
theorem dL_firstFreeByHours_11 : decode cL_firstFreeByHours 11 = .ok (.lastore, 1) := by decide +kernel
theorem dL_firstFreeByHours_12 : decode cL_firstFreeByHours 12 = .ok (.goto 7, 3) := by decide +kernel
theorem dL_firstFreeByHours_15 : decode cL_firstFreeByHours 15 = .ok (.astore 5, 2) := by decide +kernel
theorem dL_firstFreeByHours_17 : decode cL_firstFreeByHours 17 = .ok (.iconst 1, 1) := by decide +kernel
theorem dL_firstFreeByHours_18 : decode cL_firstFreeByHours 18 = .ok (.ireturn, 1) := by decide +kernel
theorem dL_firstFreeByHours_19 : decode cL_firstFreeByHours 19 = .ok (.iconst 0, 1) := by decide +kernel
theorem dL_firstFreeByHours_20 : decode cL_firstFreeByHours 20 = .ok (.ireturn, 1) := by decide +kernel
theorem lkh_firstFreeByHours : LKH yL_firstFreeByHours cL_firstFreeByHours 6 (some .int) [(0, 12, 15, 15)] 5 := ⟨(qW_at 1239 (by decide +kernel) rfl), (qW_at 74 (by decide +kernel) rfl), by decide, by decide, by decide +kernel⟩
theorem stl_firstFreeByHours : Cond.static yL_firstFreeByHours ∈ qW := (qW_at 1238 (by decide +kernel) rfl)
set_option maxRecDepth 100000 in
set_option maxHeartbeats 1600000 in
theorem E_L_firstFreeByHours (sv : Nat) (p0 p1 p2 : Int32) : MEH yL_firstFreeByHours cL_firstFreeByHours 6 (some .int) [(0, 12, 15, 15)] 10 170 3 18 (fun DA => [.ref sv, .int p0, .int p1, .int p2, .ref (sv + 62)]) (fun DA mm R => qty mm sv = (1, 7, 0) ∧ qty mm (sv + 62) = (3, 0, 1) ∧ ∃ r m1, F_X6_firstFreeByHours sv p0 p1 p2 mm = some (r, m1) ∧ KP sv mm m1 ∧ (∀ v, r = .ok v → True ∧ R (.ok (some (.int (I 0)))) (sal m1 (sv + 62) 0 v.toInt64)) ∧ (∀ e0, r = .error e0 → ∃ cd, mpE e0 = some cd ∧ ∀ n, qtop m1 ≤ n → R (.ok (some (.int (I cd)))) (stop m1 n))) := by
  refine MEH_of (env0 := fun DA => [(0, .ref sv), (1, .int p0), (2, .int p1), (3, .int p2), (4, .ref (sv + 62))]) (by decide) (fun DA => by exact Nat.le_of_ble_eq_true rfl) (fun DA => by rfl) (fun k mm R X C hR hN hr hname hP => ?_)
  have X : CX k cL_firstFreeByHours RL := X
  have htr := C.2.2.2.1
  obtain ⟨h1, h62, r, m1, hx, hk, hok, her⟩ := hP
  let T9 : Nat → QM → Prop := fun e m' => ∃ cd, mpE e = some cd ∧ ∀ n, qtop m' ≤ n → R (.ok (some (.int (I cd)))) (stop m' n)
  have hTp : THp k 7 T9 := by
    intro e mm9 H locs ls rest ce q9 a9 b9 hT9 z9 hn9 hl9 hls9 hq9 hv9 hc9 ha9 hb9
    obtain ⟨cd, hcd, hR9⟩ := hT9
    unfold mpE at hcd
    by_cases e2 : e = 2
    · subst e2
      have hcd : some (1 : Int) = some cd := hcd
      cases hcd
      refine t_catch (e := 2) (hh := [(0, 12, 15, 15)]) (pre := []) (suf := []) X C.2.1 rfl (by decide) (by decide) (by decide) (qW_at 196 (by decide +kernel) rfl) (qN_at 276 (by decide +kernel) rfl) (fun z hz => absurd hz List.not_mem_nil) (fun q n a b hn ha hb => ?_) H locs ls rest ce q9 a9 b9 z9 hn9 hl9 hls9 hq9 hv9 hc9 ha9 hb9
      refine g_astore (r := some q) (env' := [(5, .ref q)]) X dL_firstFreeByHours_15 (by rw [hN]; decide) rfl ?_
      refine g_iconst (v := I 1) X dL_firstFreeByHours_17 rfl ?_
      exact h_iret X C hr rfl dL_firstFreeByHours_18 ha hb (hR9 n hn)
    · rw [if_neg e2] at hcd
      exact absurd hcd (by simp)
  have h62' := hk.ty62 h62
  refine g_aload (r := some (sv + 62)) 4 X dL_firstFreeByHours_0 rfl ?_
  refine g_iconst (v := I 0) X dL_firstFreeByHours_2 rfl ?_
  refine t_al 0 X dL_firstFreeByHours_3 rfl rfl ?_
  refine g_iload_n 1 X dL_firstFreeByHours_4 rfl rfl ?_
  refine g_iload_n 2 X dL_firstFreeByHours_5 rfl rfl ?_
  refine g_iload_n 3 X dL_firstFreeByHours_6 rfl rfl ?_
  refine p_callV (st := [.int (I 0), .ref (sv + 62)]) (q := sv) (av := [.int p0, .int p1, .int p2]) (T := T9) X hTp htr rfl h1 (M_X6_firstFreeByHours sv p0 p1 p2) lk_X6_firstFreeByHours im_X6_firstFreeByHours se_X6_firstFreeByHours (qW_at 1240 (by decide +kernel) rfl) rfl (by rw [hR]; exact ⟨Nat.le_of_ble_eq_true rfl, Nat.le_of_ble_eq_true rfl⟩) (by exact Nat.le_of_ble_eq_true rfl) (by rw [hR]; exact ⟨Nat.le_of_ble_eq_true rfl, Nat.le_of_ble_eq_true rfl⟩) dL_firstFreeByHours_7 (by rfl) ?_
  unfold qwp
  rw [hx]
  cases r with
  | error e => exact her e rfl
  | ok v =>
    show GG k _ (.int v :: .int (I 0) :: .ref (sv + 62) :: []) m1 _ _ _
    refine g_i2l X dL_firstFreeByHours_10 ?_
    refine g_last (q := sv + 62) (n := 1) X h62' (by intro q; rcases q with q | q <;> exact absurd q (by decide)) dL_firstFreeByHours_11 ?_
    rw [show (I 0).toNatClampNeg = 0 from by decide]
    refine g_goto (tgt := 19) X dL_firstFreeByHours_12 (by decide) ?_
    refine g_iconst (v := I 0) X dL_firstFreeByHours_19 rfl ?_
    exact h_iret X C hr rfl dL_firstFreeByHours_20 (by rw [hR]; exact Nat.le_of_ble_eq_true rfl) (by rw [hR]; exact Nat.le_of_ble_eq_true rfl) ((hok v rfl).2)
theorem dL_mark_0 : decode cL_mark 0 = .ok (.aload_n 2, 1) := by decide +kernel
theorem dL_mark_1 : decode cL_mark 1 = .ok (.iconst 0, 1) := by decide +kernel
theorem dL_mark_2 : decode cL_mark 2 = .ok (.aload_n 0, 1) := by decide +kernel
theorem dL_mark_3 : decode cL_mark 3 = .ok (.iload_n 1, 1) := by decide +kernel
theorem dL_mark_4 : decode cL_mark 4 = .ok (.invokevirtual 138, 3) := by decide +kernel
theorem dL_mark_7 : decode cL_mark 7 = .ok (.i2l, 1) := by decide +kernel
theorem dL_mark_8 : decode cL_mark 8 = .ok (.lastore, 1) := by decide +kernel
theorem dL_mark_9 : decode cL_mark 9 = .ok (.goto 6, 3) := by decide +kernel
theorem dL_mark_12 : decode cL_mark 12 = .ok (.astore_n 3, 1) := by decide +kernel
theorem dL_mark_13 : decode cL_mark 13 = .ok (.iconst 1, 1) := by decide +kernel
theorem dL_mark_14 : decode cL_mark 14 = .ok (.ireturn, 1) := by decide +kernel
theorem dL_mark_15 : decode cL_mark 15 = .ok (.iconst 0, 1) := by decide +kernel
theorem dL_mark_16 : decode cL_mark 16 = .ok (.ireturn, 1) := by decide +kernel
theorem lkh_mark : LKH yL_mark cL_mark 4 (some .int) [(0, 9, 12, 13)] 3 := ⟨(qW_at 1261 (by decide +kernel) rfl), (qW_at 74 (by decide +kernel) rfl), by decide, by decide, by decide +kernel⟩
theorem stl_mark : Cond.static yL_mark ∈ qW := (qW_at 1260 (by decide +kernel) rfl)
set_option maxRecDepth 100000 in
set_option maxHeartbeats 1600000 in
theorem E_L_mark (sv : Nat) (p0 : Int32) : MEH yL_mark cL_mark 4 (some .int) [(0, 9, 12, 13)] 8 122 1 6 (fun DA => [.ref sv, .int p0, .ref (sv + 62)]) (fun DA mm R => qty mm sv = (1, 7, 0) ∧ qty mm (sv + 62) = (3, 0, 1) ∧ ∃ r m1, F_X6_mark sv p0 mm = some (r, m1) ∧ KP sv mm m1 ∧ (∀ v, r = .ok v → True ∧ R (.ok (some (.int (I 0)))) (sal m1 (sv + 62) 0 v.toInt64)) ∧ (∀ e0, r = .error e0 → ∃ cd, mpD e0 = some cd ∧ ∀ n, qtop m1 ≤ n → R (.ok (some (.int (I cd)))) (stop m1 n))) := by
  refine MEH_of (env0 := fun DA => [(0, .ref sv), (1, .int p0), (2, .ref (sv + 62))]) (by decide) (fun DA => by exact Nat.le_of_ble_eq_true rfl) (fun DA => by rfl) (fun k mm R X C hR hN hr hname hP => ?_)
  have X : CX k cL_mark RL := X
  have htr := C.2.2.2.1
  obtain ⟨h1, h62, r, m1, hx, hk, hok, her⟩ := hP
  let T9 : Nat → QM → Prop := fun e m' => ∃ cd, mpD e = some cd ∧ ∀ n, qtop m' ≤ n → R (.ok (some (.int (I cd)))) (stop m' n)
  have hTp : THp k 4 T9 := by
    intro e mm9 H locs ls rest ce q9 a9 b9 hT9 z9 hn9 hl9 hls9 hq9 hv9 hc9 ha9 hb9
    obtain ⟨cd, hcd, hR9⟩ := hT9
    unfold mpD at hcd
    by_cases e1 : e = 1
    · subst e1
      have hcd : some (1 : Int) = some cd := hcd
      cases hcd
      refine t_catch (e := 1) (hh := [(0, 9, 12, 13)]) (pre := []) (suf := []) X C.2.1 rfl (by decide) (by decide) (by decide) (qW_at 195 (by decide +kernel) rfl) (qN_at 207 (by decide +kernel) rfl) (fun z hz => absurd hz List.not_mem_nil) (fun q n a b hn ha hb => ?_) H locs ls rest ce q9 a9 b9 z9 hn9 hl9 hls9 hq9 hv9 hc9 ha9 hb9
      refine t_as (env' := [(3, .ref q)]) X dL_mark_12 rfl (by rw [hN]; decide) rfl ?_
      refine g_iconst (v := I 1) X dL_mark_13 rfl ?_
      exact h_iret X C hr rfl dL_mark_14 ha hb (hR9 n hn)
    · rw [if_neg e1] at hcd
      exact absurd hcd (by simp)
  have h62' := hk.ty62 h62
  refine t_al 2 X dL_mark_0 rfl rfl ?_
  refine g_iconst (v := I 0) X dL_mark_1 rfl ?_
  refine t_al 0 X dL_mark_2 rfl rfl ?_
  refine g_iload_n 1 X dL_mark_3 rfl rfl ?_
  refine p_callV (st := [.int (I 0), .ref (sv + 62)]) (q := sv) (av := [.int p0]) (T := T9) X hTp htr rfl h1 (M_X6_mark sv p0) lk_X6_mark im_X6_mark se_X6_mark (qW_at 1262 (by decide +kernel) rfl) rfl (by rw [hR]; exact ⟨Nat.le_of_ble_eq_true rfl, Nat.le_of_ble_eq_true rfl⟩) (by exact Nat.le_of_ble_eq_true rfl) (by rw [hR]; exact ⟨Nat.le_of_ble_eq_true rfl, Nat.le_of_ble_eq_true rfl⟩) dL_mark_4 (by rfl) ?_
  unfold qwp
  rw [hx]
  cases r with
  | error e => exact her e rfl
  | ok v =>
    show GG k _ (.int v :: .int (I 0) :: .ref (sv + 62) :: []) m1 _ _ _
    refine g_i2l X dL_mark_7 ?_
    refine g_last (q := sv + 62) (n := 1) X h62' (by intro q; rcases q with q | q <;> exact absurd q (by decide)) dL_mark_8 ?_
    rw [show (I 0).toNatClampNeg = 0 from by decide]
    refine g_goto (tgt := 15) X dL_mark_9 (by decide) ?_
    refine g_iconst (v := I 0) X dL_mark_15 rfl ?_
    exact h_iret X C hr rfl dL_mark_16 (by rw [hR]; exact Nat.le_of_ble_eq_true rfl) (by rw [hR]; exact Nat.le_of_ble_eq_true rfl) ((hok v rfl).2)
theorem dL_changes_0 : decode cL_changes 0 = .ok (.aload_n 3, 1) := by decide +kernel
theorem dL_changes_1 : decode cL_changes 1 = .ok (.iconst 0, 1) := by decide +kernel
theorem dL_changes_2 : decode cL_changes 2 = .ok (.aload_n 0, 1) := by decide +kernel
theorem dL_changes_3 : decode cL_changes 3 = .ok (.iload_n 1, 1) := by decide +kernel
theorem dL_changes_4 : decode cL_changes 4 = .ok (.iload_n 2, 1) := by decide +kernel
theorem dL_changes_5 : decode cL_changes 5 = .ok (.invokevirtual 141, 3) := by decide +kernel
theorem dL_changes_8 : decode cL_changes 8 = .ok (.i2l, 1) := by decide +kernel
theorem dL_changes_9 : decode cL_changes 9 = .ok (.lastore, 1) := by decide +kernel
theorem dL_changes_10 : decode cL_changes 10 = .ok (.goto 15, 3) := by decide +kernel
theorem dL_changes_13 : decode cL_changes 13 = .ok (.astore 4, 2) := by decide +kernel
theorem dL_changes_15 : decode cL_changes 15 = .ok (.iconst 1, 1) := by decide +kernel
theorem dL_changes_16 : decode cL_changes 16 = .ok (.ireturn, 1) := by decide +kernel
theorem dL_changes_17 : decode cL_changes 17 = .ok (.astore 4, 2) := by decide +kernel
theorem dL_changes_19 : decode cL_changes 19 = .ok (.iconst 2, 1) := by decide +kernel
theorem dL_changes_20 : decode cL_changes 20 = .ok (.ireturn, 1) := by decide +kernel
theorem dL_changes_21 : decode cL_changes 21 = .ok (.astore 4, 2) := by decide +kernel
theorem dL_changes_23 : decode cL_changes 23 = .ok (.iconst 3, 1) := by decide +kernel
theorem dL_changes_24 : decode cL_changes 24 = .ok (.ireturn, 1) := by decide +kernel
theorem dL_changes_25 : decode cL_changes 25 = .ok (.iconst 0, 1) := by decide +kernel
theorem dL_changes_26 : decode cL_changes 26 = .ok (.ireturn, 1) := by decide +kernel
theorem lkh_changes : LKH yL_changes cL_changes 5 (some .int) [(0, 10, 13, 13), (0, 10, 17, 15), (0, 10, 21, 31)] 4 := ⟨(qW_at 1268 (by decide +kernel) rfl), (qW_at 74 (by decide +kernel) rfl), by decide, by decide, by decide +kernel⟩
theorem stl_changes : Cond.static yL_changes ∈ qW := (qW_at 1267 (by decide +kernel) rfl)
set_option maxRecDepth 100000 in
set_option maxHeartbeats 1600000 in
theorem E_L_changes (sv : Nat) (p0 p1 : Int32) : MEH yL_changes cL_changes 5 (some .int) [(0, 10, 13, 13), (0, 10, 17, 15), (0, 10, 21, 31)] 10 168 3 18 (fun DA => [.ref sv, .int p0, .int p1, .ref (sv + 62)]) (fun DA mm R => qty mm sv = (1, 7, 0) ∧ qty mm (sv + 62) = (3, 0, 1) ∧ ∃ r m1, F_X6_changes sv p0 p1 mm = some (r, m1) ∧ KP sv mm m1 ∧ (∀ v, r = .ok v → True ∧ R (.ok (some (.int (I 0)))) (sal m1 (sv + 62) 0 v.toInt64)) ∧ (∀ e0, r = .error e0 → ∃ cd, mpA e0 = some cd ∧ ∀ n, qtop m1 ≤ n → R (.ok (some (.int (I cd)))) (stop m1 n))) := by
  refine MEH_of (env0 := fun DA => [(0, .ref sv), (1, .int p0), (2, .int p1), (3, .ref (sv + 62))]) (by decide) (fun DA => by exact Nat.le_of_ble_eq_true rfl) (fun DA => by rfl) (fun k mm R X C hR hN hr hname hP => ?_)
  have X : CX k cL_changes RL := X
  have htr := C.2.2.2.1
  obtain ⟨h1, h62, r, m1, hx, hk, hok, her⟩ := hP
  let T9 : Nat → QM → Prop := fun e m' => ∃ cd, mpA e = some cd ∧ ∀ n, qtop m' ≤ n → R (.ok (some (.int (I cd)))) (stop m' n)
  have hTp : THp k 5 T9 := by
    intro e mm9 H locs ls rest ce q9 a9 b9 hT9 z9 hn9 hl9 hls9 hq9 hv9 hc9 ha9 hb9
    obtain ⟨cd, hcd, hR9⟩ := hT9
    unfold mpA at hcd
    by_cases e1 : e = 1
    · subst e1
      have hcd : some (1 : Int) = some cd := hcd
      cases hcd
      refine t_catch (e := 1) (hh := [(0, 10, 13, 13), (0, 10, 17, 15), (0, 10, 21, 31)]) (pre := []) (suf := [(0, 10, 17, 15), (0, 10, 21, 31)]) X C.2.1 rfl (by decide) (by decide) (by decide) (qW_at 195 (by decide +kernel) rfl) (qN_at 207 (by decide +kernel) rfl) (fun z hz => absurd hz List.not_mem_nil) (fun q n a b hn ha hb => ?_) H locs ls rest ce q9 a9 b9 z9 hn9 hl9 hls9 hq9 hv9 hc9 ha9 hb9
      refine g_astore (r := some q) (env' := [(4, .ref q)]) X dL_changes_13 (by rw [hN]; decide) rfl ?_
      refine g_iconst (v := I 1) X dL_changes_15 rfl ?_
      exact h_iret X C hr rfl dL_changes_16 ha hb (hR9 n hn)
    · rw [if_neg e1] at hcd
      by_cases e2 : e = 2
      · subst e2
        have hcd : some (2 : Int) = some cd := hcd
        cases hcd
        refine t_catch (e := 2) (hh := [(0, 10, 13, 13), (0, 10, 17, 15), (0, 10, 21, 31)]) (pre := [(0, 10, 13, 13)]) (suf := [(0, 10, 21, 31)]) X C.2.1 rfl (by decide) (by decide) (by decide) (qW_at 196 (by decide +kernel) rfl) (qN_at 276 (by decide +kernel) rfl) (fun z hz => by
          simp only [List.mem_cons, List.mem_nil_iff, or_false] at hz
          rcases hz with rfl
          · exact ⟨by decide, 1, by decide, by decide, (qW_at 195 (by decide +kernel) rfl)⟩) (fun q n a b hn ha hb => ?_) H locs ls rest ce q9 a9 b9 z9 hn9 hl9 hls9 hq9 hv9 hc9 ha9 hb9
        refine g_astore (r := some q) (env' := [(4, .ref q)]) X dL_changes_17 (by rw [hN]; decide) rfl ?_
        refine g_iconst (v := I 2) X dL_changes_19 rfl ?_
        exact h_iret X C hr rfl dL_changes_20 ha hb (hR9 n hn)
      · rw [if_neg e2] at hcd
        by_cases e3 : e = 3
        · subst e3
          have hcd : some (3 : Int) = some cd := hcd
          cases hcd
          refine t_catch (e := 3) (hh := [(0, 10, 13, 13), (0, 10, 17, 15), (0, 10, 21, 31)]) (pre := [(0, 10, 13, 13), (0, 10, 17, 15)]) (suf := []) X C.2.1 rfl (by decide) (by decide) (by decide) (qW_at 334 (by decide +kernel) rfl) (qN_at 350 (by decide +kernel) rfl) (fun z hz => by
            simp only [List.mem_cons, List.mem_nil_iff, or_false] at hz
            rcases hz with rfl | rfl
            · exact ⟨by decide, 1, by decide, by decide, (qW_at 195 (by decide +kernel) rfl)⟩
            · exact ⟨by decide, 2, by decide, by decide, (qW_at 196 (by decide +kernel) rfl)⟩) (fun q n a b hn ha hb => ?_) H locs ls rest ce q9 a9 b9 z9 hn9 hl9 hls9 hq9 hv9 hc9 ha9 hb9
          refine g_astore (r := some q) (env' := [(4, .ref q)]) X dL_changes_21 (by rw [hN]; decide) rfl ?_
          refine g_iconst (v := I 3) X dL_changes_23 rfl ?_
          exact h_iret X C hr rfl dL_changes_24 ha hb (hR9 n hn)
        · rw [if_neg e3] at hcd
          exact absurd hcd (by simp)
  have h62' := hk.ty62 h62
  refine t_al 3 X dL_changes_0 rfl rfl ?_
  refine g_iconst (v := I 0) X dL_changes_1 rfl ?_
  refine t_al 0 X dL_changes_2 rfl rfl ?_
  refine g_iload_n 1 X dL_changes_3 rfl rfl ?_
  refine g_iload_n 2 X dL_changes_4 rfl rfl ?_
  refine p_callV (st := [.int (I 0), .ref (sv + 62)]) (q := sv) (av := [.int p0, .int p1]) (T := T9) X hTp htr rfl h1 (M_X6_changes sv p0 p1) lk_X6_changes im_X6_changes se_X6_changes (qW_at 1269 (by decide +kernel) rfl) rfl (by rw [hR]; exact ⟨Nat.le_of_ble_eq_true rfl, Nat.le_of_ble_eq_true rfl⟩) (by exact Nat.le_of_ble_eq_true rfl) (by rw [hR]; exact ⟨Nat.le_of_ble_eq_true rfl, Nat.le_of_ble_eq_true rfl⟩) dL_changes_5 (by rfl) ?_
  unfold qwp
  rw [hx]
  cases r with
  | error e => exact her e rfl
  | ok v =>
    show GG k _ (.int v :: .int (I 0) :: .ref (sv + 62) :: []) m1 _ _ _
    refine g_i2l X dL_changes_8 ?_
    refine g_last (q := sv + 62) (n := 1) X h62' (by intro q; rcases q with q | q <;> exact absurd q (by decide)) dL_changes_9 ?_
    rw [show (I 0).toNatClampNeg = 0 from by decide]
    refine g_goto (tgt := 25) X dL_changes_10 (by decide) ?_
    refine g_iconst (v := I 0) X dL_changes_25 rfl ?_
    exact h_iret X C hr rfl dL_changes_26 (by rw [hR]; exact Nat.le_of_ble_eq_true rfl) (by rw [hR]; exact Nat.le_of_ble_eq_true rfl) ((hok v rfl).2)
theorem dL_changeAt_0 : decode cL_changeAt 0 = .ok (.aload 4, 2) := by decide +kernel
theorem dL_changeAt_2 : decode cL_changeAt 2 = .ok (.iconst 0, 1) := by decide +kernel
theorem dL_changeAt_3 : decode cL_changeAt 3 = .ok (.aload_n 0, 1) := by decide +kernel
theorem dL_changeAt_4 : decode cL_changeAt 4 = .ok (.iload_n 1, 1) := by decide +kernel
theorem dL_changeAt_5 : decode cL_changeAt 5 = .ok (.iload_n 2, 1) := by decide +kernel
theorem dL_changeAt_6 : decode cL_changeAt 6 = .ok (.iload_n 3, 1) := by decide +kernel
theorem dL_changeAt_7 : decode cL_changeAt 7 = .ok (.invokevirtual 144, 3) := by decide +kernel
theorem dL_changeAt_10 : decode cL_changeAt 10 = .ok (.i2l, 1) := by decide +kernel
theorem dL_changeAt_11 : decode cL_changeAt 11 = .ok (.lastore, 1) := by decide +kernel
theorem dL_changeAt_12 : decode cL_changeAt 12 = .ok (.goto 15, 3) := by decide +kernel
theorem dL_changeAt_15 : decode cL_changeAt 15 = .ok (.astore 5, 2) := by decide +kernel
theorem dL_changeAt_17 : decode cL_changeAt 17 = .ok (.iconst 1, 1) := by decide +kernel
theorem dL_changeAt_18 : decode cL_changeAt 18 = .ok (.ireturn, 1) := by decide +kernel
theorem dL_changeAt_19 : decode cL_changeAt 19 = .ok (.astore 5, 2) := by decide +kernel
theorem dL_changeAt_21 : decode cL_changeAt 21 = .ok (.iconst 2, 1) := by decide +kernel
theorem dL_changeAt_22 : decode cL_changeAt 22 = .ok (.ireturn, 1) := by decide +kernel
theorem dL_changeAt_23 : decode cL_changeAt 23 = .ok (.astore 5, 2) := by decide +kernel
theorem dL_changeAt_25 : decode cL_changeAt 25 = .ok (.iconst 3, 1) := by decide +kernel
theorem dL_changeAt_26 : decode cL_changeAt 26 = .ok (.ireturn, 1) := by decide +kernel
theorem dL_changeAt_27 : decode cL_changeAt 27 = .ok (.iconst 0, 1) := by decide +kernel
theorem dL_changeAt_28 : decode cL_changeAt 28 = .ok (.ireturn, 1) := by decide +kernel
theorem lkh_changeAt : LKH yL_changeAt cL_changeAt 6 (some .int) [(0, 12, 15, 13), (0, 12, 19, 15), (0, 12, 23, 31)] 5 := ⟨(qW_at 1287 (by decide +kernel) rfl), (qW_at 74 (by decide +kernel) rfl), by decide, by decide, by decide +kernel⟩
theorem stl_changeAt : Cond.static yL_changeAt ∈ qW := (qW_at 1286 (by decide +kernel) rfl)
set_option maxRecDepth 100000 in
set_option maxHeartbeats 1600000 in
theorem E_L_changeAt (sv : Nat) (p0 p1 p2 : Int32) : MEH yL_changeAt cL_changeAt 6 (some .int) [(0, 12, 15, 13), (0, 12, 19, 15), (0, 12, 23, 31)] 10 173 4 24 (fun DA => [.ref sv, .int p0, .int p1, .int p2, .ref (sv + 62)]) (fun DA mm R => qty mm sv = (1, 7, 0) ∧ qty mm (sv + 62) = (3, 0, 1) ∧ ∃ r m1, F_X6_changeAt sv p0 p1 p2 mm = some (r, m1) ∧ KP sv mm m1 ∧ (∀ v, r = .ok v → True ∧ R (.ok (some (.int (I 0)))) (sal m1 (sv + 62) 0 v.toInt64)) ∧ (∀ e0, r = .error e0 → ∃ cd, mpA e0 = some cd ∧ ∀ n, qtop m1 ≤ n → R (.ok (some (.int (I cd)))) (stop m1 n))) := by
  refine MEH_of (env0 := fun DA => [(0, .ref sv), (1, .int p0), (2, .int p1), (3, .int p2), (4, .ref (sv + 62))]) (by decide) (fun DA => by exact Nat.le_of_ble_eq_true rfl) (fun DA => by rfl) (fun k mm R X C hR hN hr hname hP => ?_)
  have X : CX k cL_changeAt RL := X
  have htr := C.2.2.2.1
  obtain ⟨h1, h62, r, m1, hx, hk, hok, her⟩ := hP
  let T9 : Nat → QM → Prop := fun e m' => ∃ cd, mpA e = some cd ∧ ∀ n, qtop m' ≤ n → R (.ok (some (.int (I cd)))) (stop m' n)
  have hTp : THp k 7 T9 := by
    intro e mm9 H locs ls rest ce q9 a9 b9 hT9 z9 hn9 hl9 hls9 hq9 hv9 hc9 ha9 hb9
    obtain ⟨cd, hcd, hR9⟩ := hT9
    unfold mpA at hcd
    by_cases e1 : e = 1
    · subst e1
      have hcd : some (1 : Int) = some cd := hcd
      cases hcd
      refine t_catch (e := 1) (hh := [(0, 12, 15, 13), (0, 12, 19, 15), (0, 12, 23, 31)]) (pre := []) (suf := [(0, 12, 19, 15), (0, 12, 23, 31)]) X C.2.1 rfl (by decide) (by decide) (by decide) (qW_at 195 (by decide +kernel) rfl) (qN_at 207 (by decide +kernel) rfl) (fun z hz => absurd hz List.not_mem_nil) (fun q n a b hn ha hb => ?_) H locs ls rest ce q9 a9 b9 z9 hn9 hl9 hls9 hq9 hv9 hc9 ha9 hb9
      refine g_astore (r := some q) (env' := [(5, .ref q)]) X dL_changeAt_15 (by rw [hN]; decide) rfl ?_
      refine g_iconst (v := I 1) X dL_changeAt_17 rfl ?_
      exact h_iret X C hr rfl dL_changeAt_18 ha hb (hR9 n hn)
    · rw [if_neg e1] at hcd
      by_cases e2 : e = 2
      · subst e2
        have hcd : some (2 : Int) = some cd := hcd
        cases hcd
        refine t_catch (e := 2) (hh := [(0, 12, 15, 13), (0, 12, 19, 15), (0, 12, 23, 31)]) (pre := [(0, 12, 15, 13)]) (suf := [(0, 12, 23, 31)]) X C.2.1 rfl (by decide) (by decide) (by decide) (qW_at 196 (by decide +kernel) rfl) (qN_at 276 (by decide +kernel) rfl) (fun z hz => by
          simp only [List.mem_cons, List.mem_nil_iff, or_false] at hz
          rcases hz with rfl
          · exact ⟨by decide, 1, by decide, by decide, (qW_at 195 (by decide +kernel) rfl)⟩) (fun q n a b hn ha hb => ?_) H locs ls rest ce q9 a9 b9 z9 hn9 hl9 hls9 hq9 hv9 hc9 ha9 hb9
        refine g_astore (r := some q) (env' := [(5, .ref q)]) X dL_changeAt_19 (by rw [hN]; decide) rfl ?_
        refine g_iconst (v := I 2) X dL_changeAt_21 rfl ?_
        exact h_iret X C hr rfl dL_changeAt_22 ha hb (hR9 n hn)
      · rw [if_neg e2] at hcd
        by_cases e3 : e = 3
        · subst e3
          have hcd : some (3 : Int) = some cd := hcd
          cases hcd
          refine t_catch (e := 3) (hh := [(0, 12, 15, 13), (0, 12, 19, 15), (0, 12, 23, 31)]) (pre := [(0, 12, 15, 13), (0, 12, 19, 15)]) (suf := []) X C.2.1 rfl (by decide) (by decide) (by decide) (qW_at 334 (by decide +kernel) rfl) (qN_at 350 (by decide +kernel) rfl) (fun z hz => by
            simp only [List.mem_cons, List.mem_nil_iff, or_false] at hz
            rcases hz with rfl | rfl
            · exact ⟨by decide, 1, by decide, by decide, (qW_at 195 (by decide +kernel) rfl)⟩
            · exact ⟨by decide, 2, by decide, by decide, (qW_at 196 (by decide +kernel) rfl)⟩) (fun q n a b hn ha hb => ?_) H locs ls rest ce q9 a9 b9 z9 hn9 hl9 hls9 hq9 hv9 hc9 ha9 hb9
          refine g_astore (r := some q) (env' := [(5, .ref q)]) X dL_changeAt_23 (by rw [hN]; decide) rfl ?_
          refine g_iconst (v := I 3) X dL_changeAt_25 rfl ?_
          exact h_iret X C hr rfl dL_changeAt_26 ha hb (hR9 n hn)
        · rw [if_neg e3] at hcd
          exact absurd hcd (by simp)
  have h62' := hk.ty62 h62
  refine g_aload (r := some (sv + 62)) 4 X dL_changeAt_0 rfl ?_
  refine g_iconst (v := I 0) X dL_changeAt_2 rfl ?_
  refine t_al 0 X dL_changeAt_3 rfl rfl ?_
  refine g_iload_n 1 X dL_changeAt_4 rfl rfl ?_
  refine g_iload_n 2 X dL_changeAt_5 rfl rfl ?_
  refine g_iload_n 3 X dL_changeAt_6 rfl rfl ?_
  refine p_callV (st := [.int (I 0), .ref (sv + 62)]) (q := sv) (av := [.int p0, .int p1, .int p2]) (T := T9) X hTp htr rfl h1 (M_X6_changeAt sv p0 p1 p2) lk_X6_changeAt im_X6_changeAt se_X6_changeAt (qW_at 1288 (by decide +kernel) rfl) rfl (by rw [hR]; exact ⟨Nat.le_of_ble_eq_true rfl, Nat.le_of_ble_eq_true rfl⟩) (by exact Nat.le_of_ble_eq_true rfl) (by rw [hR]; exact ⟨Nat.le_of_ble_eq_true rfl, Nat.le_of_ble_eq_true rfl⟩) dL_changeAt_7 (by rfl) ?_
  unfold qwp
  rw [hx]
  cases r with
  | error e => exact her e rfl
  | ok v =>
    show GG k _ (.int v :: .int (I 0) :: .ref (sv + 62) :: []) m1 _ _ _
    refine g_i2l X dL_changeAt_10 ?_
    refine g_last (q := sv + 62) (n := 1) X h62' (by intro q; rcases q with q | q <;> exact absurd q (by decide)) dL_changeAt_11 ?_
    rw [show (I 0).toNatClampNeg = 0 from by decide]
    refine g_goto (tgt := 27) X dL_changeAt_12 (by decide) ?_
    refine g_iconst (v := I 0) X dL_changeAt_27 rfl ?_
    exact h_iret X C hr rfl dL_changeAt_28 (by rw [hR]; exact Nat.le_of_ble_eq_true rfl) (by rw [hR]; exact Nat.le_of_ble_eq_true rfl) ((hok v rfl).2)
