section C16
variable {m M : QM} {sv : Nat} {a a0 : Nat} {ri : Nat → Int} {rl : Nat → Int64} {rd : Int → Int}
theorem x_new (c : Nat) (m : QM) : xnew c m = some (.ok (some (qtop m)), qnew m c) := id rfl
theorem new5 (m : QM) : qty (qnew m 5) (qtop m) = (1, 5, 0) := va_up_same _ _ _
theorem MK.w2 {x : Int} (h : MK sv m M a ri rl rd) : MK sv m (sfi M 322 a (I x)) a (updi ri 11 x) rl rd := ⟨h.1.w2, h.2.1.sfi h.2.2, h.2.2⟩
theorem MK.w3 {x : Int} (h : MK sv m M a ri rl rd) : MK sv m (sfi M 323 a (I x)) a (updi ri 12 x) rl rd := ⟨h.1.w3, h.2.1.sfi h.2.2, h.2.2⟩
theorem MK.w4 {x : Int} (h : MK sv m M a ri rl rd) : MK sv m (sfi M 324 a (I x)) a (updi ri 13 x) rl rd := ⟨h.1.w4, h.2.1.sfi h.2.2, h.2.2⟩
theorem MK.w5 {x : Int} (h : MK sv m M a ri rl rd) : MK sv m (sfi M 325 a (I x)) a (updi ri 14 x) rl rd := ⟨h.1.w5, h.2.1.sfi h.2.2, h.2.2⟩
theorem MK.w6 {x : Int} (h : MK sv m M a ri rl rd) : MK sv m (sfi M 326 a (I x)) a (updi ri 15 x) rl rd := ⟨h.1.w6, h.2.1.sfi h.2.2, h.2.2⟩
theorem MK.w7 {x : Int} (h : MK sv m M a ri rl rd) : MK sv m (sfi M 327 a (I x)) a (updi ri 16 x) rl rd := ⟨h.1.w7, h.2.1.sfi h.2.2, h.2.2⟩
theorem MK.w14 {x : Int} (h : MK sv m M a ri rl rd) : MK sv m (sfi M 334 a (I x)) a (updi ri 17 x) rl rd := ⟨h.1.w14, h.2.1.sfi h.2.2, h.2.2⟩
theorem MK.w15 {x : Int} (h : MK sv m M a ri rl rd) : MK sv m (sfi M 335 a (I x)) a (updi ri 18 x) rl rd := ⟨h.1.w15, h.2.1.sfi h.2.2, h.2.2⟩
theorem MK.w16 {x : Int} (h : MK sv m M a ri rl rd) : MK sv m (sfi M 336 a (I x)) a (updi ri 19 x) rl rd := ⟨h.1.w16, h.2.1.sfi h.2.2, h.2.2⟩
theorem MK.w8 {x : Int64} (h : MK sv m M a ri rl rd) : MK sv m (sfl M 328 a x) a ri (updl rl 20 x) rd := ⟨h.1.w8, h.2.1.sfl h.2.2, h.2.2⟩
theorem MK.w9 {x : Int64} (h : MK sv m M a ri rl rd) : MK sv m (sfl M 329 a x) a ri (updl rl 21 x) rd := ⟨h.1.w9, h.2.1.sfl h.2.2, h.2.2⟩
theorem MK.rows {s : Int} (h : MK sv m M a ri rl rd) (ht : sv + 23 ≤ qtop m) : MK sv m (sfr (qnewi M 0 60 (fun y => if y < 60 then I s else 0)) 333 a (some (qtop M))) a ri rl (rdAll rd s) := by
  have e : ∀ d : Int, d < 60 → rdAll rd s d = rd d % 2048 + 2048 * s := fun d x => if_pos x
  refine ⟨(h.1.newI (t := 0) (n := 60) (w := fun y => if y < 60 then I s else 0)).wsr (IA_new rfl (Nat.le_trans ht h.2.1.top) (fun d x y => ?_)) (fun d x y _ => ?_), h.2.1.qnewi.sfr h.2.2, h.2.2⟩
  · unfold std
    rw [if_pos (by omega), e d y, show (rd d % 2048 + 2048 * s) / 2048 = s by omega]
  · rw [e d y]; omega
def VB (ri : Nat → Int) (rl : Nat → Int64) (rd : Int → Int) : Prop := RB ri ∧ (ri 19 = 0 ∨ ri 19 = 1) ∧ (0 ≤ ri 9 ∧ ri 9 ≤ 1000) ∧ LB (rl 20) ∧ ∀ e : Int, 0 ≤ e → e < 60 → 0 ≤ rd e ∧ rd e % 2048 < 1440
theorem v_time {d c l : Int} (hv : VR sv m a0 ri rl rd) (ht : sv + 23 ≤ qtop m) (hb : VB ri rl rd) (h0 : 0 ≤ d) (h1 : d < 60) : ∃ M' a', F_X4_withTime a0 (I d) (I c) (I l) m = some (.ok (some a'), M') ∧ MK sv m M' a' (updi (updi (updi (updi ri 9 (ri 9 + 1)) 11 d) 12 c) 13 l) (updl rl 23 (datR (updi (updi (updi (updi ri 9 (ri 9 + 1)) 11 d) 12 c) 13 l) rl)) (rdAll rd (ri 9 + 1)) := by
  obtain ⟨b1, b2, b3, b4, b5⟩ := hb
  obtain ⟨M1, e1, k1⟩ := c_init_ hv ht b2
  have k2 := k1.w2 (x := d)
  have k3 := k2.w3 (x := c)
  have k4 := k3.w4 (x := l)
  have k5 := k4.rows (s := ri 9 + 1) ht
  obtain ⟨M6, e6, k6⟩ := c_findDates k5 ht ⟨⟨h0, h1⟩, b1.2.1, b1.2.2.1, b1.2.2.2⟩ b4
  refine ⟨M6, qtop m, ?_, k6⟩
  unfold F_X4_withTime
  simp only [xb_xp, xb_as]
  rw [xb_ok (x_new 5 m), xb_xo (new5 m), xb_ok e1, xb_ok (x_si rfl k1.1.ty), xb_ok (x_si rfl k2.1.ty), xb_ok (x_si rfl k3.1.ty), xb_ok (x_gi rfl k4.1.ty k4.1.f0)]
  rw [show updi (updi (updi (updi ri 9 (ri 9 + 1)) 11 d) 12 c) 13 l 9 = ri 9 + 1 from rfl, xb_ok c_rowOf, xb_ok (x_sr rfl (show qty _ _ = (1, 5, 0) from (k4.1.newI (t := 0) (n := 60) (w := fun y => if y < 60 then I (ri 9 + 1) else 0)).ty)), ov_b k5.1, xb_ok e6, xp_ap]
theorem v_rule {s w c : Int} (hv : VR sv m a0 ri rl rd) (ht : sv + 23 ≤ qtop m) (hb : VB ri rl rd) (h0 : 1 ≤ s ∧ s ≤ 28) (h1 : 1 ≤ w ∧ w ≤ 127) (h2 : 1 ≤ c ∧ c ≤ 10) : ∃ M' a', F_X4_withRule a0 (I s) (I w) (I c) m = some (.ok (some a'), M') ∧ MK sv m M' a' (updi (updi (updi (updi ri 9 (ri 9 + 1)) 14 s) 15 w) 16 c) (updl rl 23 (datR (updi (updi (updi (updi ri 9 (ri 9 + 1)) 14 s) 15 w) 16 c) rl)) (rdAll rd (ri 9 + 1)) := by
  obtain ⟨b1, b2, b3, b4, b5⟩ := hb
  obtain ⟨M1, e1, k1⟩ := c_init_ hv ht b2
  have k2 := k1.w5 (x := s)
  have k3 := k2.w6 (x := w)
  have k4 := k3.w7 (x := c)
  have k5 := k4.rows (s := ri 9 + 1) ht
  obtain ⟨M6, e6, k6⟩ := c_findDates k5 ht ⟨b1.1, h0, h1, h2⟩ b4
  refine ⟨M6, qtop m, ?_, k6⟩
  unfold F_X4_withRule
  simp only [xb_xp, xb_as]
  rw [xb_ok (x_new 5 m), xb_xo (new5 m), xb_ok e1, xb_ok (x_si rfl k1.1.ty), xb_ok (x_si rfl k2.1.ty), xb_ok (x_si rfl k3.1.ty), xb_ok (x_gi rfl k4.1.ty k4.1.f0)]
  rw [show updi (updi (updi (updi ri 9 (ri 9 + 1)) 14 s) 15 w) 16 c 9 = ri 9 + 1 from rfl, xb_ok c_rowOf, xb_ok (x_sr rfl (show qty _ _ = (1, 5, 0) from (k4.1.newI (t := 0) (n := 60) (w := fun y => if y < 60 then I (ri 9 + 1) else 0)).ty)), ov_b k5.1, xb_ok e6, xp_ap]
theorem v_drop {d : Int} (hv : VR sv m a0 ri rl rd) (ht : sv + 23 ≤ qtop m) (hb : VB ri rl rd) (h0 : 0 ≤ d) (h1 : d < 60) : ∃ M' a', F_X4_withoutDate a0 (I d) m = some (.ok (some a'), M') ∧ MK sv m M' a' (updi ri 9 (ri 9 + 1)) (updl (updl (updl (updl rl 20 (rl 20 &&& (bitL d ^^^ (-1)))) 21 (rl 21 ||| bitL d)) 22 (rl 22 &&& (bitL d ^^^ (-1)))) 23 (datR (updi ri 9 (ri 9 + 1)) (updl (updl (updl rl 20 (rl 20 &&& (bitL d ^^^ (-1)))) 21 (rl 21 ||| bitL d)) 22 (rl 22 &&& (bitL d ^^^ (-1)))))) rd := by
  obtain ⟨b1, b2, b3, b4, b5⟩ := hb
  obtain ⟨M1, e1, k1⟩ := c_init_ hv ht b2
  have k2 := k1.w8 (x := rl 20 &&& (bitL d ^^^ (-1)))
  have k3 := k2.w9 (x := rl 21 ||| bitL d)
  obtain ⟨M4, e4, k4⟩ := c_putMoved (d := d) (c := -1) (x := rl 22 &&& (bitL d ^^^ (-1))) (rd' := rd) k3 ht h0 h1 (by omega) (by omega) (fun e x y => (b5 e x y).2) (fun e x y => by
    show (if hl (rl 22 &&& (bitL d ^^^ (-1))) e = true then rd e % 2048 else -1) = if e = d then -1 else (if hl (rl 22) e = true then rd e % 2048 else -1)
    rw [hl_and x y, hl_not x y, hl_bit h0 h1 x y]
    by_cases q : e = d
    · rw [if_pos q, decide_eq_true q, Bool.not_true, Bool.and_false, if_neg (by decide)]
    · rw [if_neg q, decide_eq_false q, Bool.not_false, Bool.and_true]) (fun _ _ _ => rfl)
  obtain ⟨M6, e6, k6⟩ := c_findDates k4 ht b1 (LB_and b4)
  refine ⟨M6, qtop m, ?_, k6⟩
  unfold F_X4_withoutDate
  simp only [xb_xp, xb_as]
  rw [xb_ok (x_new 5 m), xb_xo (new5 m), xb_ok e1, yv8 k1.1, show ((1 : Int64) <<< ((I d).toInt64 &&& 63)) = bitL d from rfl, xb_ok (x_sl rfl k1.1.ty), yv9 k2.1, show updl rl 20 (rl 20 &&& (bitL d ^^^ (-1))) 21 = rl 21 from rfl, xb_ok (x_sl (f := 329) rfl k2.1.ty), glm1, ov_b k3.1, xb_ok e4, ov_b k4.1, xb_ok e6, xp_ap]
theorem v_add {d : Int} (hv : VR sv m a0 ri rl rd) (ht : sv + 23 ≤ qtop m) (hb : VB ri rl rd) (h0 : 0 ≤ d) (h1 : d < 60) : ∃ M' a', F_X4_withDate a0 (I d) m = some (.ok (some a'), M') ∧ MK sv m M' a' (updi ri 9 (ri 9 + 1)) (updl (updl (updl rl 20 (rl 20 ||| bitL d)) 21 (rl 21 &&& (bitL d ^^^ (-1)))) 23 (datR (updi ri 9 (ri 9 + 1)) (updl (updl rl 20 (rl 20 ||| bitL d)) 21 (rl 21 &&& (bitL d ^^^ (-1)))))) (updd rd d (rd d % 2048 + 2048 * (ri 9 + 1))) := by
  obtain ⟨b1, b2, b3, b4, b5⟩ := hb
  obtain ⟨M1, e1, k1⟩ := c_init_ hv ht b2
  have k2 := k1.w8 (x := rl 20 ||| bitL d)
  have k3 := k2.w9 (x := rl 21 &&& (bitL d ^^^ (-1)))
  obtain ⟨M4, e4, k4⟩ := c_putStand (d := d) k3 ht h0 h1 (fun e x y => (b5 e x y).1) (by show 0 ≤ ri 9 + 1; omega)
  obtain ⟨M6, e6, k6⟩ := c_findDates k4 ht b1 (LB_or b4 (LB_bit h0 h1))
  refine ⟨M6, qtop m, ?_, k6⟩
  unfold F_X4_withDate
  simp only [xb_xp, xb_as]
  rw [xb_ok (x_new 5 m), xb_xo (new5 m), xb_ok e1, yv8 k1.1, show ((1 : Int64) <<< ((I d).toInt64 &&& 63)) = bitL d from rfl, xb_ok (x_sl rfl k1.1.ty), yv9 k2.1, show updl rl 20 (rl 20 ||| bitL d) 21 = rl 21 from rfl, xb_ok (x_sl (f := 329) rfl k2.1.ty), ov_b k3.1, xb_ok e4, ov_b k4.1, xb_ok e6, xp_ap]
theorem MK.congr {ri' : Nat → Int} {rl' : Nat → Int64} {rd' : Int → Int} (h : MK sv m M a ri rl rd) (ei : ∀ J, 9 ≤ J → J ≤ 19 → ri' J = ri J) (el : ∀ J, 20 ≤ J → J ≤ 23 → rl' J = rl J) (ed : ∀ d, 0 ≤ d → d < 60 → rd' d = rd d) : MK sv m M a ri' rl' rd' := ⟨h.1.congr ei el ed, h.2⟩
theorem v_move {d c : Int} (hv : VR sv m a0 ri rl rd) (ht : sv + 23 ≤ qtop m) (hb : VB ri rl rd) (h0 : 0 ≤ d) (h1 : d < 60) (c0 : 0 ≤ c) (c1 : c < 1440) : ∃ M' a', F_X4_withMove a0 (I d) (I c) m = some (.ok (some a'), M') ∧ MK sv m M' a' (updi ri 9 (ri 9 + 1)) (updl rl 22 (rl 22 ||| bitL d)) (updd rd d (c + 2048 * (ri 9 + 1))) := by
  obtain ⟨b1, b2, b3, b4, b5⟩ := hb
  obtain ⟨M1, e1, k1⟩ := c_init_ hv ht b2
  have up : ∀ e x : Int, updd rd d x e = if e = d then x else rd e := fun _ _ => rfl
  obtain ⟨M4, e4, k4⟩ := c_putMoved (d := d) (c := c) (x := rl 22 ||| bitL d) (rd' := updd rd d (c + 2048 * (rd d / 2048))) k1 ht h0 h1 (by omega) c1 (fun e x y => (b5 e x y).2) (fun e x y => by
    show (if hl (rl 22 ||| bitL d) e = true then updd rd d (c + 2048 * (rd d / 2048)) e % 2048 else -1) = if e = d then c else (if hl (rl 22) e = true then rd e % 2048 else -1)
    rw [hl_or x y, hl_bit h0 h1 x y, up]
    by_cases q : e = d
    · rw [if_pos q, if_pos q, decide_eq_true q, Bool.or_true, if_pos rfl]; omega
    · rw [if_neg q, if_neg q, decide_eq_false q, Bool.or_false]) (fun e x y => by
    rw [up]
    by_cases q : e = d
    · subst q; rw [if_pos rfl]; omega
    · rw [if_neg q])
  obtain ⟨M5, e5, k5⟩ := c_putStand (d := d) k4 ht h0 h1 (fun e x y => by
    rw [up]
    have := b5 e x y
    have := b5 d h0 h1
    split <;> omega) (by show 0 ≤ ri 9 + 1; omega)
  refine ⟨M5, qtop m, ?_, k5.congr (fun _ _ _ => rfl) (fun _ _ _ => rfl) (fun e x y => ?_)⟩
  · unfold F_X4_withMove
    simp only [xb_xp, xb_as]
    rw [xb_ok (x_new 5 m), xb_xo (new5 m), xb_ok e1, ov_b k1.1, xb_ok e4, ov_b k4.1, xb_ok e5, xp_ap]
  · show (if e = d then c + 2048 * (ri 9 + 1) else rd e) = if e = d then (updd rd d (c + 2048 * (rd d / 2048)) d % 2048 + 2048 * (ri 9 + 1)) else updd rd d (c + 2048 * (rd d / 2048)) e
    rw [up, up, if_pos rfl]
    by_cases q : e = d
    · rw [if_pos q, if_pos q]; omega
    · rw [if_neg q, if_neg q, if_neg q]
theorem v_invited {p : Int} (hv : VR sv m a0 ri rl rd) (ht : sv + 23 ≤ qtop m) (hb : VB ri rl rd) : ∃ M' a', F_X4_withInvited a0 (I p) m = some (.ok (some a'), M') ∧ MK sv m M' a' (updi (updi (updi ri 9 (ri 9 + 1)) 17 (orb (ri 17) p)) 18 (anb (ri 18) p)) rl rd := by
  obtain ⟨b1, b2, b3, b4, b5⟩ := hb
  obtain ⟨M1, e1, k1⟩ := c_init_ hv ht b2
  have k2 := k1.w14 (x := orb (ri 17) p)
  have k3 := k2.w15 (x := anb (ri 18) p)
  refine ⟨_, qtop m, ?_, k3⟩
  unfold F_X4_withInvited
  simp only [xb_xp, xb_as]
  rw [xb_ok (x_new 5 m), xb_xo (new5 m), xb_ok e1, yv14 k1.1, show (I (updi ri 9 (ri 9 + 1) 17) ||| (1 : Int32) <<< (I p &&& 31)) = I (orb (ri 17) p) from I_orb (ri 17) p, xb_ok (x_si rfl k1.1.ty), yv15 k2.1, show (I (updi (updi ri 9 (ri 9 + 1)) 17 (orb (ri 17) p) 18) &&& ((1 : Int32) <<< (I p &&& 31) ^^^ (-1))) = I (anb (ri 18) p) from I_anb (ri 18) p, xb_ok (x_si rfl k2.1.ty), xp_ap]
theorem v_leftOut {p : Int} (hv : VR sv m a0 ri rl rd) (ht : sv + 23 ≤ qtop m) (hb : VB ri rl rd) : ∃ M' a', F_X4_withLeftOut a0 (I p) m = some (.ok (some a'), M') ∧ MK sv m M' a' (updi (updi (updi ri 9 (ri 9 + 1)) 17 (anb (ri 17) p)) 18 (orb (ri 18) p)) rl rd := by
  obtain ⟨b1, b2, b3, b4, b5⟩ := hb
  obtain ⟨M1, e1, k1⟩ := c_init_ hv ht b2
  have k2 := k1.w14 (x := anb (ri 17) p)
  have k3 := k2.w15 (x := orb (ri 18) p)
  refine ⟨_, qtop m, ?_, k3⟩
  unfold F_X4_withLeftOut
  simp only [xb_xp, xb_as]
  rw [xb_ok (x_new 5 m), xb_xo (new5 m), xb_ok e1, yv14 k1.1, show (I (updi ri 9 (ri 9 + 1) 17) &&& ((1 : Int32) <<< (I p &&& 31) ^^^ (-1))) = I (anb (ri 17) p) from I_anb (ri 17) p, xb_ok (x_si rfl k1.1.ty), yv15 k2.1, show (I (updi (updi ri 9 (ri 9 + 1)) 17 (anb (ri 17) p) 18) ||| (1 : Int32) <<< (I p &&& 31)) = I (orb (ri 18) p) from I_orb (ri 18) p, xb_ok (x_si rfl k2.1.ty), xp_ap]
theorem v_cancel (hv : VR sv m a0 ri rl rd) (ht : sv + 23 ≤ qtop m) (hb : VB ri rl rd) : ∃ M' a', F_X4_withCancel a0 m = some (.ok (some a'), M') ∧ MK sv m M' a' (updi (updi ri 9 (ri 9 + 1)) 19 1) rl rd := by
  obtain ⟨b1, b2, b3, b4, b5⟩ := hb
  obtain ⟨M1, e1, k1⟩ := c_init_ hv ht b2
  have k2 := k1.w16 (x := 1)
  refine ⟨_, qtop m, ?_, k2⟩
  unfold F_X4_withCancel
  simp only [xb_xp, xb_as]
  rw [xb_ok (x_new 5 m), xb_xo (new5 m), xb_ok e1, gl1, xb_ok (x_sz rfl k1.1.ty (Or.inr (by decide))), xp_ap]
end C16
