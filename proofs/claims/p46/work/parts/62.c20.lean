theorem hor_t : ∀ x, x < 32 → ∀ y, y < 5 → ∀ z, z < 5 → hb (orb ((x : Nat) : Int) ((y : Nat) : Int)) ((z : Nat) : Int) = (hb ((x : Nat) : Int) ((z : Nat) : Int) || decide (z = y)) ∧ hb (anb ((x : Nat) : Int) ((y : Nat) : Int)) ((z : Nat) : Int) = (hb ((x : Nat) : Int) ((z : Nat) : Int) && !decide (z = y)) := by decide +kernel
theorem hb_orb {x y z : Int} (a : 0 ≤ x) (b : x < 32) (c : 0 ≤ y) (d : y < 5) (e : 0 ≤ z) (f : z < 5) : hb (orb x y) z = (hb x z || decide (z = y)) ∧ hb (anb x y) z = (hb x z && !decide (z = y)) := by
  obtain ⟨x', rfl⟩ := Int.eq_ofNat_of_zero_le a
  obtain ⟨y', rfl⟩ := Int.eq_ofNat_of_zero_le c
  obtain ⟨z', rfl⟩ := Int.eq_ofNat_of_zero_le e
  have h := hor_t x' (by omega) y' (by omega) z' (by omega)
  have q : decide (((z' : Nat) : Int) = ((y' : Nat) : Int)) = decide (z' = y') := decide_eq_decide.mpr (by omega)
  rw [h.1, h.2, q]
  exact ⟨rfl, rfl⟩
section C20
variable {sv : Nat} {G : GM} {S : MS} {m M : QM} {t : Int} {i : Int} {ri : Nat → Int} {rl RL : Nat → Int64} {rd : Int → Int} {a' : Nat}
theorem nR {β : Type} {s w c : Int} {f : Unit → QX β} (sl : -2147483648 ≤ s) (sh : s < 2147483648) (wl : -2147483648 ≤ w) (wh : w < 2147483648) (cl : -2147483648 ≤ c) (ch : c < 2147483648) : xb (F_X6_needRange (I s) (1 : Int32) (28 : Int32)) (fun _ => xb (F_X6_needRange (I w) (1 : Int32) (127 : Int32)) fun _ => xb (F_X6_needRange (I c) (1 : Int32) (10 : Int32)) f) m = if gR s w c = true then f () m else some (.error 2, m) := by
  have eR : gR s w c = (gIn s 1 28 && gIn w 1 127 && gIn c 1 10) := rfl
  rw [eR, gl1, gl28, gl127, gl10, xb_need (c_needRange sl sh (by decide) (by decide) (by decide) (by decide))]
  by_cases g1 : gIn s 1 28 = true
  · rw [if_pos g1, xb_need (c_needRange wl wh (by decide) (by decide) (by decide) (by decide)), g1]
    by_cases g2 : gIn w 1 127 = true
    · rw [if_pos g2, xb_need (c_needRange cl ch (by decide) (by decide) (by decide) (by decide)), g2]; rfl
    · rw [if_neg g2, Bool.eq_false_iff.mpr g2]; rfl
  · rw [if_neg g1, Bool.eq_false_iff.mpr g1]; rfl
theorem nDC {β : Type} {d c : Int} {f : Unit → QX β} (dl : -2147483648 ≤ d) (dh : d < 2147483648) (cl : -2147483648 ≤ c) (ch : c < 2147483648) : xb (F_X6_needDay (I d)) (fun _ => xb (F_X6_needDateHour (I c)) f) m = if (gD d && gC c) = true then f () m else some (.error 2, m) := by
  rw [xb_need (c_needDay dl dh)]
  by_cases g1 : gD d = true
  · rw [if_pos g1, xb_need (c_needDateHour cl ch), g1, Bool.true_and]
  · rw [if_neg g1, Bool.eq_false_iff.mpr g1]; rfl
theorem stD {β : Type} {d : Int} {f : Unit → QX β} (h : CR sv G S m) (hs : SI t S) (g1 : gM S i = true) (g2 : gD d = true) : xb (xgr 1 2 (some (am G i))) (fun v => xb (xgi 5 16 v) fun v6 => xb (if (!decide (¬ v6 = 0)) = true then xb (xgr 1 2 (some (am G i))) fun v => xb (xo 5 v fun q => F_X4_isDate q (I d)) fun v => xp (decide (¬ v = 0)) else xp false) fun v => xb (F_X6_needState (b2i v)) f) m = if (gH S i && gN S i d) = true then f () m else some (.error 3, m) := by
  have q := gM_d g1
  have q2 := gD_d g2
  have hm := h.mt i q.1 q.2
  have hx := hs.wr.mt q.1 q.2
  have hv := hs.wr.vs hx.2.1.1 hx.2.1.2
  rw [ym2 hm, yv16 hm.now, nz hv.2.2.2.2.2.2.2.2.2.2.2, ← gH_e g1]
  rw [xb_ok (xif_and (b := gN S i d) (fun _ => by rw [ym2 hm, ov_b hm.now, xb_ok (c_isDate hm.now (by omega) (by omega)), g2, Bool.true_and, xp_ap, b2ne]; rfl))]
  rw [xb_need (c_needState _ _)]
theorem stN {β : Type} {d : Int} {f : Unit → QX β} (h : CR sv G S m) (hs : SI t S) (g1 : gM S i = true) (g2 : gD d = true) : xb (xgr 1 2 (some (am G i))) (fun v => xb (xgi 5 16 v) fun v6 => xb (if (!decide (¬ v6 = 0)) = true then xb (xgr 1 2 (some (am G i))) fun v => xb (xo 5 v fun q => F_X4_isDate q (I d)) fun v => xp (!decide (¬ v = 0)) else xp false) fun v => xb (F_X6_needState (b2i v)) f) m = if (gH S i && !gN S i d) = true then f () m else some (.error 3, m) := by
  have q := gM_d g1
  have q2 := gD_d g2
  have hm := h.mt i q.1 q.2
  have hx := hs.wr.mt q.1 q.2
  have hv := hs.wr.vs hx.2.1.1 hx.2.1.2
  rw [ym2 hm, yv16 hm.now, nz hv.2.2.2.2.2.2.2.2.2.2.2, ← gH_e g1]
  rw [xb_ok (xif_and (b := !gN S i d) (fun _ => by rw [ym2 hm, ov_b hm.now, xb_ok (c_isDate hm.now (by omega) (by omega)), g2, Bool.true_and, xp_ap, b2ne]; rfl))]
  rw [xb_need (c_needState _ _)]
theorem dt_same (hs : SI t S) (hi : 0 ≤ i) (hi' : i < mf S 3) (h11 : ri 11 = ma S 11 (ma S 5 i)) (h14 : ri 14 = ma S 14 (ma S 5 i)) (h15 : ri 15 = ma S 15 (ma S 5 i)) (h16 : ri 16 = ma S 16 (ma S 5 i)) (l20 : rl 20 = ml S 20 (ma S 5 i)) (l21 : rl 21 = ml S 21 (ma S 5 i)) : ml S 23 (ma S 5 i) = datR ri rl := by
  have hx := hs.wr.mt hi hi'
  rw [hs.dt _ hx.2.1.1 hx.2.1.2, dts_R]
  exact (datR_cg h11 h14 h15 h16 l20 l21).symm
theorem gPM_e {p : Int} : gPM S p i = (gM S i && gP p) := by rw [← pm_eq, Bool.and_comm]; rfl
theorem q_repeat {s w c : Int} (h : CR sv G S m) (hs : SI t S) (ht : t + 2 ≤ 600) (il : -2147483648 ≤ i) (ih : i < 2147483648) (sl : -2147483648 ≤ s) (sh : s < 2147483648) (wl : -2147483648 ≤ w) (wh : w < 2147483648) (cl : -2147483648 ≤ c) (ch : c < 2147483648) : OUTR sv (F_X6_repeat sv (I i) (I s) (I w) (I c)) m (gM S i) (gR s w c) (gH S i) (I (rI S i 9)) (sRepeat S i s w c) S := by
  by_cases g1 : gM S i = true
  · have q := gM_d g1
    have hm := h.mt i q.1 q.2
    have hx := hs.wr.mt q.1 q.2
    have hv := hs.wr.vs hx.2.1.1 hx.2.1.2
    by_cases g2 : gR s w c = true
    · have q2 : (1 ≤ s ∧ s ≤ 28) ∧ (1 ≤ w ∧ w ≤ 127) ∧ (1 ≤ c ∧ c ≤ 10) := by
        have z := g2
        unfold gR at z
        simp only [Bool.and_eq_true, decide_eq_true_eq] at z
        exact ⟨z.1.1, z.1.2, z.2⟩
      by_cases g3 : gH S i = true
      · have hr : OKR (t + 1) (updi (updi (updi (rI S i) 14 s) 15 w) 16 c) (rdAll (rD S i) (rI S i 9)) := OKR_all (OKR_upd (OKR_upd (OKR_upd (OKR_next hs.wr q.1 q.2) (by omega) (by omega) (by omega) (by omega) (by omega) (by omega) (by omega) (by omega) (by omega) (by omega)) (by omega) (by omega) (by omega) (by omega) (by omega) (by omega) (by omega) (by omega) (by omega) (by omega)) (by omega) (by omega) (by omega) (by omega) (by omega) (by omega) (by omega) (by omega) (by omega) (by omega))
        obtain ⟨M, a', e1, mk⟩ := v_rule (s := s) (w := w) (c := c) hm.now h.cf.top (hs.vb q.1 q.2) q2.1 q2.2.1 q2.2.2
        obtain ⟨hC, G', m', e2, e3, e4⟩ := c_fin (i := i) (ri := updi (updi (updi (rI S i) 14 s) 15 w) 16 c) (rl := rL S i) (rd := rdAll (rD S i) (rI S i 9)) h hs ht q.1 q.2 hr (hs.lo i q.1 q.2) mk (fun J a b => if_neg (by omega)) (if_pos rfl)
        refine OUTR.ok g1 g2 g3 ⟨G', m', ?_, e3, e4⟩
        unfold F_X6_repeat
        simp only [xb_xp, xb_as]
        rw [os_b h.cf, xb_need (c_meetingNumbered h hs.wr il ih), if_pos g1, nR sl sh wl wh cl ch, if_pos g2, ym2 hm, yv16 hm.now, nz hv.2.2.2.2.2.2.2.2.2.2.2, ← gH_e g1, xb_need (c_needState _ _), if_pos g3, ym2 hm, ov_b hm.now, xb_ok e1, os hC.cf]
        exact e2
      · refine OUTR.e3 h g1 g2 g3 ?_
        unfold F_X6_repeat
        simp only [xb_xp, xb_as]
        rw [os_b h.cf, xb_need (c_meetingNumbered h hs.wr il ih), if_pos g1, nR sl sh wl wh cl ch, if_pos g2, ym2 hm, yv16 hm.now, nz hv.2.2.2.2.2.2.2.2.2.2.2, ← gH_e g1, xb_need (c_needState _ _), if_neg g3]
    · refine OUTR.e2 h g1 g2 ?_
      unfold F_X6_repeat
      simp only [xb_xp, xb_as]
      rw [os_b h.cf, xb_need (c_meetingNumbered h hs.wr il ih), if_pos g1, nR sl sh wl wh cl ch, if_neg g2]
  · refine OUTR.e1 h g1 ?_
    unfold F_X6_repeat
    simp only [xb_xp, xb_as]
    rw [os_b h.cf, xb_need (c_meetingNumbered h hs.wr il ih), if_neg g1]
theorem j3 {J : Nat} (a : 20 ≤ J) (b : J ≤ 22) : J = 20 ∨ J = 21 ∨ J = 22 := by omega
theorem q_drop {d : Int} (h : CR sv G S m) (hs : SI t S) (ht : t + 2 ≤ 600) (il : -2147483648 ≤ i) (ih : i < 2147483648) (dl : -2147483648 ≤ d) (dh : d < 2147483648) : OUTR sv (F_X6_drop sv (I i) (I d)) m (gM S i) (gD d) (gM S i && gD d && gH S i && gN S i d) (I (rI S i 9)) (sDrop S i d) S := by
  by_cases g1 : gM S i = true
  · have q := gM_d g1
    have hm := h.mt i q.1 q.2
    have hx := hs.wr.mt q.1 q.2
    by_cases g2 : gD d = true
    · have q2 := gD_d g2
      have e3 : (gM S i && gD d && gH S i && gN S i d) = (gH S i && gN S i d) := by rw [g1, g2]; rfl
      by_cases g3 : (gH S i && gN S i d) = true
      · obtain ⟨M, a', e1, mk⟩ := v_drop (d := d) hm.now h.cf.top (hs.vb q.1 q.2) q2.1 q2.2
        obtain ⟨hC, G', m', e2, e3', e4⟩ := c_fin (i := i) (ri := rI S i) (rl := updl (updl (updl (rL S i) 21 (rL S i 21 ||| bitL d)) 20 (rL S i 20 &&& (bitL d ^^^ (-1)))) 22 (rL S i 22 &&& (bitL d ^^^ (-1)))) (rd := rD S i) h hs ht q.1 q.2 (OKR_next hs.wr q.1 q.2) (hs.lo i q.1 q.2) mk (fun J a b => by rcases j3 a b with e | e | e <;> subst e <;> rfl) (datR_cg rfl rfl rfl rfl rfl rfl)
        refine OUTR.ok g1 g2 (e3.trans g3) ⟨G', m', ?_, e3', e4⟩
        unfold F_X6_drop
        simp only [xb_xp, xb_as]
        rw [os_b h.cf, xb_need (c_meetingNumbered h hs.wr il ih), if_pos g1, xb_need (c_needDay dl dh), if_pos g2, stD h hs g1 g2, if_pos g3, ym2 hm, ov_b hm.now, xb_ok e1, os hC.cf]
        exact e2
      · refine OUTR.e3 h g1 g2 (by rw [e3]; exact g3) ?_
        unfold F_X6_drop
        simp only [xb_xp, xb_as]
        rw [os_b h.cf, xb_need (c_meetingNumbered h hs.wr il ih), if_pos g1, xb_need (c_needDay dl dh), if_pos g2, stD h hs g1 g2, if_neg g3]
    · refine OUTR.e2 h g1 g2 ?_
      unfold F_X6_drop
      simp only [xb_xp, xb_as]
      rw [os_b h.cf, xb_need (c_meetingNumbered h hs.wr il ih), if_pos g1, xb_need (c_needDay dl dh), if_neg g2]
  · refine OUTR.e1 h g1 ?_
    unfold F_X6_drop
    simp only [xb_xp, xb_as]
    rw [os_b h.cf, xb_need (c_meetingNumbered h hs.wr il ih), if_neg g1]
theorem q_add {d : Int} (h : CR sv G S m) (hs : SI t S) (ht : t + 2 ≤ 600) (il : -2147483648 ≤ i) (ih : i < 2147483648) (dl : -2147483648 ≤ d) (dh : d < 2147483648) : OUTR sv (F_X6_add sv (I i) (I d)) m (gM S i) (gD d) (gM S i && gD d && gH S i && !gN S i d) (I (rI S i 9)) (sAdd S i d) S := by
  by_cases g1 : gM S i = true
  · have q := gM_d g1
    have hm := h.mt i q.1 q.2
    have hx := hs.wr.mt q.1 q.2
    by_cases g2 : gD d = true
    · have q2 := gD_d g2
      have e3 : (gM S i && gD d && gH S i && !gN S i d) = (gH S i && !gN S i d) := by rw [g1, g2]; rfl
      by_cases g3 : (gH S i && !gN S i d) = true
      · obtain ⟨M, a', e1, mk⟩ := v_add (d := d) hm.now h.cf.top (hs.vb q.1 q.2) q2.1 q2.2
        have hd := hs.wr.dl hx.2.1.1 hx.2.1.2 q2.1 q2.2
        obtain ⟨hC, G', m', e2, e3', e4⟩ := c_fin (i := i) (ri := rI S i) (rl := updl (updl (rL S i) 20 (rL S i 20 ||| bitL d)) 21 (rL S i 21 &&& (bitL d ^^^ (-1)))) (rd := updd (rD S i) d (rD S i d % 2048 + 2048 * rI S i 9)) h hs ht q.1 q.2 (OKR_d (OKR_next hs.wr q.1 q.2) (by show 0 ≤ ma S 24 (60 * ma S 5 i + d) % 2048 ∧ ma S 24 (60 * ma S 5 i + d) % 2048 < 1440; omega)) (hs.lo i q.1 q.2) mk (fun J a b => by rcases j3 a b with e | e | e <;> subst e <;> rfl) (datR_cg rfl rfl rfl rfl rfl rfl)
        refine OUTR.ok g1 g2 (e3.trans g3) ⟨G', m', ?_, e3', e4⟩
        unfold F_X6_add
        simp only [xb_xp, xb_as]
        rw [os_b h.cf, xb_need (c_meetingNumbered h hs.wr il ih), if_pos g1, xb_need (c_needDay dl dh), if_pos g2, stN h hs g1 g2, if_pos g3, ym2 hm, ov_b hm.now, xb_ok e1, os hC.cf]
        exact e2
      · refine OUTR.e3 h g1 g2 (by rw [e3]; exact g3) ?_
        unfold F_X6_add
        simp only [xb_xp, xb_as]
        rw [os_b h.cf, xb_need (c_meetingNumbered h hs.wr il ih), if_pos g1, xb_need (c_needDay dl dh), if_pos g2, stN h hs g1 g2, if_neg g3]
    · refine OUTR.e2 h g1 g2 ?_
      unfold F_X6_add
      simp only [xb_xp, xb_as]
      rw [os_b h.cf, xb_need (c_meetingNumbered h hs.wr il ih), if_pos g1, xb_need (c_needDay dl dh), if_neg g2]
  · refine OUTR.e1 h g1 ?_
    unfold F_X6_add
    simp only [xb_xp, xb_as]
    rw [os_b h.cf, xb_need (c_meetingNumbered h hs.wr il ih), if_neg g1]
theorem mvOK {d c : Int} (hs : SI t S) (hi : 0 ≤ i) (hi' : i < mf S 3) (hc : 0 ≤ c ∧ c < 1440) : OKR (t + 1) (rI S i) (updd (rD S i) d (c + 2048 * rI S i 9)) := OKR_d (OKR_next hs.wr hi hi') hc
theorem q_move {d c : Int} (h : CR sv G S m) (hs : SI t S) (ht : t + 2 ≤ 600) (il : -2147483648 ≤ i) (ih : i < 2147483648) (dl : -2147483648 ≤ d) (dh : d < 2147483648) (cl : -2147483648 ≤ c) (ch : c < 2147483648) : OUTR sv (F_X6_move sv (I i) (I d) (I c)) m (gM S i) (gD d && gC c) (gM S i && (gD d && gC c) && gH S i && gN S i d) (I (rI S i 9)) (sMove S i d c) S := by
  by_cases g1 : gM S i = true
  · have q := gM_d g1
    have hm := h.mt i q.1 q.2
    have hx := hs.wr.mt q.1 q.2
    by_cases g2 : (gD d && gC c) = true
    · have g2' := Bool.and_eq_true_iff.mp g2
      have q2 := gD_d g2'.1
      have q3 : 0 ≤ c ∧ c ≤ 1439 := of_decide_eq_true g2'.2
      have e3 : (gM S i && (gD d && gC c) && gH S i && gN S i d) = (gH S i && gN S i d) := by rw [g1, g2]; rfl
      by_cases g3 : (gH S i && gN S i d) = true
      · obtain ⟨M, a', e1, mk⟩ := v_move (d := d) (c := c) hm.now h.cf.top (hs.vb q.1 q.2) q2.1 q2.2 (by omega) (by omega)
        obtain ⟨hC, G', m', e2, e3', e4⟩ := c_fin (i := i) (ri := rI S i) (rl := updl (rL S i) 22 (rL S i 22 ||| bitL d)) (rd := updd (rD S i) d (c + 2048 * rI S i 9)) h hs ht q.1 q.2 (mvOK hs q.1 q.2 (by omega)) (hs.lo i q.1 q.2) mk (fun J a b => by rcases j3 a b with e | e | e <;> subst e <;> rfl) (dt_same hs q.1 q.2 rfl rfl rfl rfl rfl rfl)
        refine OUTR.ok g1 g2 (e3.trans g3) ⟨G', m', ?_, e3', e4⟩
        unfold F_X6_move
        simp only [xb_xp, xb_as]
        rw [os_b h.cf, xb_need (c_meetingNumbered h hs.wr il ih), if_pos g1, nDC dl dh cl ch, if_pos g2, stD h hs g1 g2'.1, if_pos g3, ym2 hm, ov_b hm.now, xb_ok e1, os hC.cf]
        exact e2
      · refine OUTR.e3 h g1 g2 (by rw [e3]; exact g3) ?_
        unfold F_X6_move
        simp only [xb_xp, xb_as]
        rw [os_b h.cf, xb_need (c_meetingNumbered h hs.wr il ih), if_pos g1, nDC dl dh cl ch, if_pos g2, stD h hs g1 g2'.1, if_neg g3]
    · refine OUTR.e2 h g1 g2 ?_
      unfold F_X6_move
      simp only [xb_xp, xb_as]
      rw [os_b h.cf, xb_need (c_meetingNumbered h hs.wr il ih), if_pos g1, nDC dl dh cl ch, if_neg g2]
  · refine OUTR.e1 h g1 ?_
    unfold F_X6_move
    simp only [xb_xp, xb_as]
    rw [os_b h.cf, xb_need (c_meetingNumbered h hs.wr il ih), if_neg g1]
theorem q_cancel (h : CR sv G S m) (hs : SI t S) (ht : t + 2 ≤ 600) (il : -2147483648 ≤ i) (ih : i < 2147483648) : OUTR sv (F_X6_cancel sv (I i)) m (gM S i) true (gH S i) (I (rI S i 9)) (sCancel S i) S := by
  by_cases g1 : gM S i = true
  · have q := gM_d g1
    have hm := h.mt i q.1 q.2
    have hx := hs.wr.mt q.1 q.2
    have hv := hs.wr.vs hx.2.1.1 hx.2.1.2
    by_cases g3 : gH S i = true
    · obtain ⟨M, a', e1, mk⟩ := v_cancel hm.now h.cf.top (hs.vb q.1 q.2)
      obtain ⟨hC, G', m', e2, e3', e4⟩ := c_fin (i := i) (ri := updi (rI S i) 19 1) (rl := rL S i) (rd := rD S i) h hs ht q.1 q.2 (OKR_upd (OKR_next hs.wr q.1 q.2) (by omega) (by omega) (by omega) (by omega) (by omega) (by omega) (by omega) (by omega) (by omega) (by omega)) (hs.lo i q.1 q.2) mk (fun _ _ _ => rfl) (dt_same hs q.1 q.2 rfl rfl rfl rfl rfl rfl)
      refine OUTR.ok g1 rfl g3 ⟨G', m', ?_, e3', e4⟩
      unfold F_X6_cancel
      simp only [xb_xp, xb_as]
      rw [os_b h.cf, xb_need (c_meetingNumbered h hs.wr il ih), if_pos g1, ym2 hm, yv16 hm.now, nz hv.2.2.2.2.2.2.2.2.2.2.2, ← gH_e g1, xb_need (c_needState _ _), if_pos g3, ym2 hm, ov_b hm.now, xb_ok e1, os hC.cf]
      exact e2
    · refine OUTR.e3 h g1 rfl g3 ?_
      unfold F_X6_cancel
      simp only [xb_xp, xb_as]
      rw [os_b h.cf, xb_need (c_meetingNumbered h hs.wr il ih), if_pos g1, ym2 hm, yv16 hm.now, nz hv.2.2.2.2.2.2.2.2.2.2.2, ← gH_e g1, xb_need (c_needState _ _), if_neg g3]
  · refine OUTR.e1 h g1 ?_
    unfold F_X6_cancel
    simp only [xb_xp, xb_as]
    rw [os_b h.cf, xb_need (c_meetingNumbered h hs.wr il ih), if_neg g1]
theorem inv_ok {p : Int} {b : Bool} (hs : SI t S) (hi : 0 ≤ i) (hi' : i < mf S 3) (hp : 0 ≤ p) (hp' : p < 5) : OKR (t + 1) (rInv S i p b) (rD S i) := by
  have hx := hs.wr.mt hi hi'
  have hv := hs.wr.vs hx.2.1.1 hx.2.1.2
  have s1 := set_r hv.2.2.2.2.2.2.2.2.2.1.1 hv.2.2.2.2.2.2.2.2.2.1.2 hp hp'
  have s2 := set_r hv.2.2.2.2.2.2.2.2.2.2.1.1 hv.2.2.2.2.2.2.2.2.2.2.1.2 hp hp'
  unfold rInv
  refine OKR_upd (OKR_upd (OKR_next hs.wr hi hi') (by omega) (by omega) (by omega) (by omega) (by omega) (by omega) (fun _ => ?_) (by omega) (by omega) (by omega)) (by omega) (by omega) (by omega) (by omega) (by omega) (by omega) (by omega) (fun _ => ?_) (by omega) (by omega)
  · show 0 ≤ (if b = true then orb (ma S 17 (ma S 5 i)) p else anb (ma S 17 (ma S 5 i)) p) ∧ (if b = true then orb (ma S 17 (ma S 5 i)) p else anb (ma S 17 (ma S 5 i)) p) < 32
    split <;> omega
  · show 0 ≤ (if b = true then anb (ma S 18 (ma S 5 i)) p else orb (ma S 18 (ma S 5 i)) p) ∧ (if b = true then anb (ma S 18 (ma S 5 i)) p else orb (ma S 18 (ma S 5 i)) p) < 32
    split <;> omega
theorem q_invite {p : Int} (b : Bool) (h : CR sv G S m) (hs : SI t S) (ht : t + 2 ≤ 600) (il : -2147483648 ≤ i) (ih : i < 2147483648) (pl : -2147483648 ≤ p) (ph : p < 2147483648) : OUTR sv (F_X6_invite sv (I i) (I p) (b2i b)) m (gM S i && gP p) (gM S i && gP p && decide (¬ ma S 4 i = p)) (gM S i && gP p && gH S i && !gS S i p b) (I (rI S i 9)) (sInvite S i p b) S := by
  have stp : ∀ {β : Type} (f : Option Nat → Unit → QX β), gM S i = true → gP p = true → xb (xgr 1 2 (some (am G i))) (fun now_11 => xb (xgi 5 16 now_11) fun v12 => xb (if (!decide (¬ v12 = 0)) = true then xb (if b = true then xgi 5 14 now_11 else xgi 5 15 now_11) fun v => xb (F_X6_isIn v (I p)) fun v => xp (!decide (¬ v = 0)) else xp false) fun v => xb (F_X6_needState (b2i v)) (f now_11)) m = if (gH S i && !gS S i p b) = true then f (some (an G i)) () m else some (.error 3, m) := fun f g1 g2 => by
    have q := gM_d g1
    have hm := h.mt i q.1 q.2
    have hx := hs.wr.mt q.1 q.2
    have hv := hs.wr.vs hx.2.1.1 hx.2.1.2
    rw [ym2 hm, yv16 hm.now, nz hv.2.2.2.2.2.2.2.2.2.2.2, ← gH_e g1]
    rw [xb_ok (xif_and (b := !gS S i p b) (fun _ => by
      unfold gS
      cases b
      · rw [if_neg (by decide), if_neg (by decide), yv15 hm.now, c_isIn, xb_xp, xp_ap, b2ne]
      · rw [if_pos rfl, if_pos rfl, yv14 hm.now, c_isIn, xb_xp, xp_ap, b2ne]))]
    rw [xb_need (c_needState _ _)]
  by_cases g : (gM S i && gP p) = true
  · have g' := Bool.and_eq_true_iff.mp g
    have q := gM_d g'.1
    have q2 := gP_d g'.2
    have hm := h.mt i q.1 q.2
    have hx := hs.wr.mt q.1 q.2
    have hv := hs.wr.vs hx.2.1.1 hx.2.1.2
    have eA : decide (¬ I p = I (ma S 4 i)) = (gM S i && gP p && decide (¬ ma S 4 i = p)) := by
      rw [g, Bool.true_and, d_ne (by omega) (by omega) (by omega) (by omega)]; exact decide_eq_decide.mpr (by omega)
    by_cases g2 : (gM S i && gP p && decide (¬ ma S 4 i = p)) = true
    · have ho : ¬ ma S 4 i = p := of_decide_eq_true (Bool.and_eq_true_iff.mp g2).2
      have e3 : (gM S i && gP p && gH S i && !gS S i p b) = (gH S i && !gS S i p b) := by rw [g]; rfl
      by_cases g3 : (gH S i && !gS S i p b) = true
      · have hr := inv_ok (b := b) hs q.1 q.2 q2.1 q2.2
        have hbo := hb_orb (x := ma S 18 (ma S 5 i)) (y := p) (z := ma S 4 i) hv.2.2.2.2.2.2.2.2.2.2.1.1 hv.2.2.2.2.2.2.2.2.2.2.1.2 q2.1 q2.2 hx.1.1 hx.1.2
        have hlo := hs.lo i q.1 q.2
        have hbz : hb (rInv S i p b 18) (ma S 4 i) = false := by
          show hb (if b = true then anb (ma S 18 (ma S 5 i)) p else orb (ma S 18 (ma S 5 i)) p) (ma S 4 i) = false
          cases b
          · rw [if_neg (by decide), hbo.1, hlo, decide_eq_false ho]; rfl
          · rw [if_pos rfl, hbo.2, hlo]; rfl
        have hmk : ∃ M a', (if b = true then xo 5 (some (an G i)) (fun q => F_X4_withInvited q (I p)) else xo 5 (some (an G i)) (fun q => F_X4_withLeftOut q (I p))) m = some (.ok (some a'), M) ∧ MK sv m M a' (rInv S i p b) (rL S i) (rD S i) := by
          cases b
          · obtain ⟨M, a', e1, mk⟩ := v_leftOut (p := p) hm.now h.cf.top (hs.vb q.1 q.2)
            exact ⟨M, a', by rw [if_neg (by decide), ov hm.now]; exact e1, mk⟩
          · obtain ⟨M, a', e1, mk⟩ := v_invited (p := p) hm.now h.cf.top (hs.vb q.1 q.2)
            exact ⟨M, a', by rw [if_pos rfl, ov hm.now]; exact e1, mk⟩
        obtain ⟨M, a', e1, mk⟩ := hmk
        obtain ⟨hC, G', m', e2, e3', e4⟩ := c_fin (i := i) (ri := rInv S i p b) (rl := rL S i) (rd := rD S i) h hs ht q.1 q.2 hr hbz mk (fun _ _ _ => rfl) (dt_same hs q.1 q.2 rfl rfl rfl rfl rfl rfl)
        refine OUTR.ok g g2 (e3.trans g3) ⟨G', m', ?_, e3', e4⟩
        unfold F_X6_invite
        simp only [xb_xp, xb_as, b2ne]
        rw [mp h hs.wr pl ph il ih, gPM_e, if_pos g, ym1 hm, eA, xb_need (c_needArgument _ _), if_pos g2, stp _ g'.1 g'.2, if_pos g3, xb_ok e1, os hC.cf]
        exact e2
      · refine OUTR.e3 h g g2 (by rw [e3]; exact g3) ?_
        unfold F_X6_invite
        simp only [xb_xp, xb_as, b2ne]
        rw [mp h hs.wr pl ph il ih, gPM_e, if_pos g, ym1 hm, eA, xb_need (c_needArgument _ _), if_pos g2, stp _ g'.1 g'.2, if_neg g3]
    · refine OUTR.e2 h g g2 ?_
      unfold F_X6_invite
      simp only [xb_xp, xb_as, b2ne]
      rw [mp h hs.wr pl ph il ih, gPM_e, if_pos g, ym1 hm, eA, xb_need (c_needArgument _ _), if_neg g2]
  · refine OUTR.e1 h g ?_
    unfold F_X6_invite
    simp only [xb_xp, xb_as, b2ne]
    rw [mp h hs.wr pl ph il ih, gPM_e, if_neg g]
theorem seta_ne {S : MS} {K J : Nat} {z v : Int} (h : J ≠ K) : ma (seta S K z v) J = ma S J := funext fun _ => if_neg (fun q => h q.1)
def EX (K : Nat) (S' S : MS) : Prop := (∀ J, J ≠ K → ma S' J = ma S J) ∧ ml S' = ml S ∧ ∀ J, J ≠ 45 → mf S' J = mf S J
theorem EX.seta (S : MS) (K : Nat) (z v : Int) : EX K (seta S K z v) S := ⟨fun _ h => seta_ne h, rfl, fun _ _ => rfl⟩
theorem SV.ex {K : Nat} {S' : MS} (e : EX K S' S) (hK : K < 9 ∨ 24 < K) (v : Int) : SV S' S v := ⟨fun J a b => by rw [e.1 J (by omega)], fun J _ _ => by rw [e.2.1], fun d _ _ => by rw [e.1 24 (by omega)]⟩
theorem SI.ex {K : Nat} {S' : MS} (hs : SI t S) (e : EX K S' S) (hK : K ∈ [0, 1, 2, 41, 42, 43, 44, 45]) (hw : WR t S') (hf : FRV S') : SI t S' := by
  have hK' : K < 3 ∨ 41 ≤ K := by
    simp only [List.mem_cons, List.not_mem_nil, or_false] at hK
    omega
  have r : ∀ J, 3 ≤ J → J ≤ 40 → ma S' J = ma S J := fun J a b => e.1 J (by omega)
  have r4 := r 4 (by decide) (by decide)
  have r5 := r 5 (by decide) (by decide)
  have r6 := r 6 (by decide) (by decide)
  have r8 := r 8 (by decide) (by decide)
  have r9 := r 9 (by decide) (by decide)
  have r17 := r 17 (by decide) (by decide)
  have r18 := r 18 (by decide) (by decide)
  have r25 := r 25 (by decide) (by decide)
  have r26 := r 26 (by decide) (by decide)
  have r31 := r 31 (by decide) (by decide)
  have r33 := r 33 (by decide) (by decide)
  have r34 := r 34 (by decide) (by decide)
  have r35 := r 35 (by decide) (by decide)
  have r37 := r 37 (by decide) (by decide)
  have r38 := r 38 (by decide) (by decide)
  have r39 := r 39 (by decide) (by decide)
  have r40 := r 40 (by decide) (by decide)
  have f3 := e.2.2 3 (by decide)
  have f7 := e.2.2 7 (by decide)
  have f29 := e.2.2 29 (by decide)
  have f30 := e.2.2 30 (by decide)
  refine ⟨hw, hf, ?_, ?_, ?_, ?_, ?_, ?_, ?_, ?_, ?_, ?_⟩
  · have := hs.mq; unfold MQS at this ⊢; simp only [r31, r37, f29, f30]; exact this
  · have := hs.lo; unfold LO at this ⊢; simp only [r18, r5, r4, f3]; exact this
  · have := hs.rp; unfold RP at this ⊢; simp only [r31, r39, f29, f30]; exact this
  · have := hs.sq; unfold SQ at this ⊢; simp only [r25, r5, r9, r31, r34, r35, f3, f29]; exact this
  · have := hs.il; unfold IL at this ⊢; simp only [r17, r18, r5, f3]; exact this
  · have := hs.no; unfold NO at this ⊢; simp only [r17, r5, r4, r6, r31, r38, r40, r34, r33, f3, f29]; exact this
  · have := hs.nv; unfold NV at this ⊢; simp only [r5, r25, r8, r31, r35, f3, f7, f29]; exact this
  · intro v a b
    rw [f7] at b
    rw [e.2.1, hs.dt v a b, dts_R, dts_R, e.2.1]
    exact datR_cg (by rw [r 11 (by decide) (by decide)]) (by rw [r 14 (by decide) (by decide)]) (by rw [r 15 (by decide) (by decide)]) (by rw [r 16 (by decide) (by decide)]) rfl rfl
  · have := hs.lb; unfold LBS at this ⊢; rw [e.2.1, f7]; exact this
  · have := hs.de; unfold DE at this ⊢; simp only [r26]; exact this
theorem SI.set43 {k : Int} (hs : SI t S) (hk : k < mf S 29) : SI t (seta S 43 k 1) := hs.ex (EX.seta S 43 k 1) (by decide) (wr_set43 hs.wr) (fr_set43 hs.fr hk)
theorem CR.set43 {k : Int} (h : CR sv G S m) (h0 : 0 ≤ k) (h1 : k < mf S 29) (hk : ma S 31 k = 2) : CR sv G (seta S 43 k 1) (sfi m 139 (ag G k) (I 1)) ∧ KP sv m (sfi m 139 (ag G k) (I 1)) := by
  have hg := h.mg k h0 h1
  have n : ∀ {f b : Nat}, f ≠ 139 → qfi (sfi m 139 (ag G k) (I 1)) f b = qfi m f b := fun q => fi_n q
  have im : IMM sv m (sfi m 139 (ag G k) (I 1)) := ⟨Nat.le_refl _, fun _ _ _ => rfl, fun f b x _ _ => n (by omega), fun _ _ _ _ _ => rfl, fun _ _ _ _ _ => rfl, fun _ _ _ => rfl⟩
  have kc : ∀ i p d, kept (seta S 43 k 1) i p d = kept S i p d := fun i p d => by
    unfold kept
    exact bestTo_cg (seta_ne (by decide)) (seta_ne (by decide)) (fun l => by unfold cK; rw [seta_ne (by decide), seta_ne (by decide), seta_ne (by decide), seta_ne (by decide), seta_ne (by decide)]) _
  have oc : ∀ i p d, ownb (seta S 43 k 1) i p d = ownb S i p d := fun i p d => by
    unfold ownb
    exact bestTo_cg (seta_ne (by decide)) (seta_ne (by decide)) (fun l => by unfold cO; rw [seta_ne (by decide), seta_ne (by decide), seta_ne (by decide), seta_ne (by decide)]) _
  have sx := fun v => SV.ex (EX.seta S 43 k 1) (Or.inr (by decide)) v
  refine ⟨⟨h.cf, (n (by decide)).trans h.f4, (n (by decide)).trans h.f5, (n (by decide)).trans h.f6, fun z x y => (n (by decide)).trans (h.z0 z x y), fun z x y => (n (by decide)).trans (h.z1 z x y), fun z x y w => (n (by decide)).trans (h.z2 z x y w), fun p x y => (n (by decide)).trans (h.p0 p x y), fun p x y => (n (by decide)).trans (h.p1 p x y), h.pe, fun i x y => ?_, h.mi, fun l x y => ?_, h.gi⟩, Nat.le_refl _, fun b x y => ⟨rfl, fun f => fi_a (by have := hg.lo; omega), fun _ => rfl, rfl, rfl⟩⟩
  · have hm := h.mt i x y
    refine hm.fr im (fun b u v => ⟨rfl, fun f _ => ⟨n (by omega), rfl⟩, rfl⟩) rfl rfl rfl (fun _ _ _ => rfl) rfl rfl rfl (fun _ _ _ => rfl) (sx _) (fun _ _ _ _ => sx _) (fun p d _ _ _ _ => by rw [kc]) (fun p d _ _ _ _ => by rw [oc])
  · by_cases e : l = k
    · subst e
      refine ⟨hg.lo, hg.hi, hg.ty, hg.pl, (n (by decide)).trans hg.f0, hg.f1, (n (by decide)).trans hg.f2, (n (by decide)).trans hg.f3, hg.f4, hg.vlo, hg.vhi, hg.vty, (n (by decide)).trans hg.v0, fun z => absurd (hk.symm.trans z) (by decide), (n (by decide)).trans hg.f5, fun z => (n (by decide)).trans (hg.f6 z), fun z => (n (by decide)).trans (hg.f7 z), fun z => (n (by decide)).trans (hg.f8 z), fun z => (n (by decide)).trans (hg.f9 z), fun z => (n (by decide)).trans (hg.f10 z), fun _ => ?_⟩
      show qfi (sfi m 139 (ag G l) (I 1)) 139 (ag G l) = I (if 43 = 43 ∧ l = l then 1 else ma S 43 l)
      rw [if_pos ⟨rfl, rfl⟩]; exact fi_s
    · refine (h.mg l x y).fr im rfl (fun f _ => ⟨fi_a (fun q => ?_), rfl⟩) rfl rfl rfl rfl (fun J a b => if_neg (fun z => e z.2)) (fun _ => sx _)
      rcases Int.lt_or_lt_of_ne e with z | z
      · have := h.gi l k x z h1; omega
      · have := h.gi k l h0 z y; omega
theorem q_take {k : Int} (h : CR sv G S m) (hs : SI t S) (ht : t + 2 ≤ 600) (kl : -2147483648 ≤ k) (kh : k < 2147483648) : OUTR sv (F_X6_take sv (I k)) m (gK S k) true (isOpenB S k) (I (rI S (ma S 34 k) 9)) (sTake S k) S := by
  by_cases g1 : gK S k = true
  · have q := gK_d g1
    have hk := hs.wr.ms q.1 q.2
    have hg := h.mg k q.1 q.2
    by_cases g3 : isOpenB S k = true
    · have g3' := g3
      unfold isOpenB at g3'
      simp only [Bool.and_eq_true, decide_eq_true_eq] at g3'
      have k2 : ma S 31 k = 2 := g3'.1.1.1.1.1
      have hd := hs.mq.2 k q.1 q.2 k2
      obtain ⟨hC, hK⟩ := h.set43 q.1 q.2 k2
      have hs2 := hs.set43 q.2
      have hi : 0 ≤ ma S 34 k ∧ ma S 34 k < mf S 3 := hk.2.2.2.1
      have hm2 := hC.mt (ma S 34 k) hi.1 hi.2
      have hg2 := hC.mg k q.1 q.2
      have s34 : ma (seta S 43 k 1) 34 = ma S 34 := seta_ne (by decide)
      have s37 : ma (seta S 43 k 1) 37 = ma S 37 := seta_ne (by decide)
      have s41 : ma (seta S 43 k 1) 41 = ma S 41 := seta_ne (by decide)
      have s31 : ma (seta S 43 k 1) 31 = ma S 31 := seta_ne (by decide)
      obtain ⟨M, a', e1, mk⟩ := v_move (d := ma S 37 k) (c := ma S 41 k) hm2.now hC.cf.top (hs2.vb hi.1 hi.2) hd (by omega) (by omega) (by omega)
      obtain ⟨hC3, G', m', e2, e3', e4⟩ := c_fin (i := ma S 34 k) (ri := rI (seta S 43 k 1) (ma S 34 k)) (rl := updl (rL (seta S 43 k 1) (ma S 34 k)) 22 (rL (seta S 43 k 1) (ma S 34 k) 22 ||| bitL (ma S 37 k))) (rd := updd (rD (seta S 43 k 1) (ma S 34 k)) (ma S 37 k) (ma S 41 k + 2048 * rI (seta S 43 k 1) (ma S 34 k) 9)) hC hs2 ht hi.1 hi.2 (mvOK hs2 hi.1 hi.2 (by omega)) (hs2.lo _ hi.1 hi.2) mk (fun J a b => by rcases j3 a b with e | e | e <;> subst e <;> rfl) (dt_same hs2 hi.1 hi.2 rfl rfl rfl rfl rfl rfl)
      refine OUTR.ok g1 rfl g3 ⟨G', m', ?_, e3', hK.trans e4⟩
      unfold F_X6_take
      simp only [xb_xp, xb_as]
      rw [os_b h.cf, xb_need (c_messageNumbered h hs.wr kl kh), if_pos g1, xb_ok (c_isOpen h hs q.1 q.2), xb_need (c_needState _ _), if_pos g3, xb_ok (x_sz (f := 139) rfl hg.ty (Or.inr (by decide))), gl1]
      rw [yg1 hg2, yg1 hg2, s34, ym2 hm2, yg5 hg2, s37, yg6 hg2 (by rw [s31]; exact k2), s41, ov_b hm2.now, xb_ok e1, os hC3.cf]
      exact e2
    · refine OUTR.e3 h g1 rfl g3 ?_
      unfold F_X6_take
      simp only [xb_xp, xb_as]
      rw [os_b h.cf, xb_need (c_messageNumbered h hs.wr kl kh), if_pos g1, xb_ok (c_isOpen h hs q.1 q.2), xb_need (c_needState _ _), if_neg g3]
  · refine OUTR.e1 h g1 ?_
    unfold F_X6_take
    simp only [xb_xp, xb_as]
    rw [os_b h.cf, xb_need (c_messageNumbered h hs.wr kl kh), if_neg g1]
theorem q_refuse {k : Int} (h : CR sv G S m) (hs : SI t S) (kl : -2147483648 ≤ k) (kh : k < 2147483648) : OUTR sv (F_X6_refuse sv (I k)) m (gK S k) true (isOpenB S k) (I (opens (seta S 43 k 1) (ma S 34 k))) (seta S 43 k 1) S := by
  by_cases g1 : gK S k = true
  · have q := gK_d g1
    have hk := hs.wr.ms q.1 q.2
    have hg := h.mg k q.1 q.2
    by_cases g3 : isOpenB S k = true
    · have g3' := g3
      unfold isOpenB at g3'
      simp only [Bool.and_eq_true, decide_eq_true_eq] at g3'
      have k2 : ma S 31 k = 2 := g3'.1.1.1.1.1
      obtain ⟨hC, hK⟩ := h.set43 q.1 q.2 k2
      have hs2 := hs.set43 q.2
      have hi : 0 ≤ ma S 34 k ∧ ma S 34 k < mf S 3 := hk.2.2.2.1
      have hg2 := hC.mg k q.1 q.2
      have s34 : ma (seta S 43 k 1) 34 = ma S 34 := seta_ne (by decide)
      refine OUTR.ok g1 rfl g3 ⟨G, sfi m 139 (ag G k) (I 1), ?_, hC, hK⟩
      unfold F_X6_refuse
      simp only [xb_xp, xb_as]
      rw [os_b h.cf, xb_need (c_messageNumbered h hs.wr kl kh), if_pos g1, xb_ok (c_isOpen h hs q.1 q.2), xb_need (c_needState _ _), if_pos g3, xb_ok (x_sz (f := 139) rfl hg.ty (Or.inr (by decide))), gl1]
      rw [yg1 hg2, s34, os hC.cf]
      exact c_openProposals hC hs2 hi.1 hi.2
    · refine OUTR.e3 h g1 rfl g3 ?_
      unfold F_X6_refuse
      simp only [xb_xp, xb_as]
      rw [os_b h.cf, xb_need (c_messageNumbered h hs.wr kl kh), if_pos g1, xb_ok (c_isOpen h hs q.1 q.2), xb_need (c_needState _ _), if_neg g3]
  · refine OUTR.e1 h g1 ?_
    unfold F_X6_refuse
    simp only [xb_xp, xb_as]
    rw [os_b h.cf, xb_need (c_messageNumbered h hs.wr kl kh), if_neg g1]
end C20
