/-! the organiser's own dates; who is asked -/
theorem cnt_single {d : Int} {n : Nat} (d0 : 0 ≤ d) (d1 : d < n) : cnt (fun e => decide (e = d)) n = 1 := by
  have a := cnt_one (c := fun e => decide (e = d)) n (fun j k h1 h2 h3 h4 => by
    have q1 : (j : Int) = d := of_decide_eq_true h3
    have q2 : (k : Int) = d := of_decide_eq_true h4
    omega)
  have b := cnt_pos (c := fun e => decide (e = d)) (k := d.toNat) (n := n) (by omega) (decide_eq_true (by omega))
  omega
theorem cnt_rm {c c0 : Int → Bool} {d : Int} {n : Nat} (d0 : 0 ≤ d) (d1 : d < n) (hd : c0 d = true) (h : ∀ e : Int, 0 ≤ e → e < n → c e = (c0 e && !decide (e = d))) : cnt c n = cnt c0 n - 1 := by
  have a := cnt_add (c := c0) (c1 := c) (c2 := fun e => decide (e = d)) n (fun k hk => by
    rw [h k (by omega) (by omega)]
    by_cases q : (k : Int) = d
    · rw [q, hd]; simp
    · simp [q])
  rw [cnt_single d0 d1] at a
  omega
theorem cnt_ins {c c0 : Int → Bool} {d : Int} {n : Nat} (d0 : 0 ≤ d) (d1 : d < n) (hd : c0 d = false) (h : ∀ e : Int, 0 ≤ e → e < n → c e = (c0 e || decide (e = d))) : cnt c n = cnt c0 n + 1 := by
  have a := cnt_add (c := c) (c1 := c0) (c2 := fun e => decide (e = d)) n (fun k hk => by
    rw [h k (by omega) (by omega)]
    by_cases q : (k : Int) = d
    · rw [q, hd]; simp
    · simp [q])
  rw [cnt_single d0 d1] at a
  omega
section C98
variable {S : MS} {t i p d : Int} {ri : Nat → Int} {rl : Nat → Int64} {rd : Int → Int}
theorem own_dat : datOf S (ma S 4 i) i = if ma S 19 (ma S 5 i) = 0 then ml S 23 (ma S 5 i) else 0 := by
  unfold datOf isHere verOf
  rw [if_pos rfl, if_pos rfl]
  by_cases c : ma S 19 (ma S 5 i) = 0
  · rw [decide_eq_true c, if_pos rfl, if_pos c]
  · rw [decide_eq_false c, if_neg (by decide), if_neg c]
theorem hl_datR (h : LB (rl 20)) {e : Int} (e0 : 0 ≤ e) (e1 : e < 60) : hl (datR ri rl) e = (hl (rl 20) e || (hl (rdR ri 60).2 e && !hl (rl 21) e)) := (hl_dfR ri rl h 60 (by decide)).2.2.2 e e0 e1
theorem hold_5 : ma (sHold (XV S i ri rl rd) i (toOf S i)) 5 i = toOf S i := by
  rw [hold_SH0, sMarks_9 _ _ _ 5 (by decide) (by decide) (by decide), sh_5, if_pos rfl]
theorem hold_4 : ma (sHold (XV S i ri rl rd) i (toOf S i)) 4 i = ma S 4 i := by
  rw [hold_SH0, sMarks_9 _ _ _ 4 (by decide) (by decide) (by decide), sh_a _ (by decide)]
theorem hold_r {J : Nat} (a : 9 ≤ J) (b : J ≤ 19) : ma (sHold (XV S i ri rl rd) i (toOf S i)) J (toOf S i) = ri J := by
  rw [hold_SH0, sMarks_9 _ _ _ J (by omega) (by omega) (by omega), sh_own.1 J a b]
theorem hold_23 : ml (sHold (XV S i ri rl rd) i (toOf S i)) 23 (toOf S i) = datR ri rl := by
  rw [hold_SH0, sMarks_l, sh_own.2.2.1]
theorem hold_hl (h20 : LB (rl 20)) (h19 : ri 19 = 0) {e : Int} (e0 : 0 ≤ e) (e1 : e < 60) : hl (datOf (sHold (XV S i ri rl rd) i (toOf S i)) (ma S 4 i) i) e = (hl (rl 20) e || (hl (rdR ri 60).2 e && !hl (rl 21) e)) := by
  have k := own_dat (S := sHold (XV S i ri rl rd) i (toOf S i)) (i := i)
  rw [hold_4, hold_5, hold_r (by decide) (by decide), hold_23, if_pos h19] at k
  rw [k, hl_datR h20 e0 e1]
theorem now_hl (hs : SI t S) (hi : 0 ≤ i) (hi' : i < mf S 3) (hc : ma S 19 (ma S 5 i) = 0) {e : Int} (e0 : 0 ≤ e) (e1 : e < 60) : hl (datOf S (ma S 4 i) i) e = (hl (rL S i 20) e || (hl (rdR (rI S i) 60).2 e && !hl (rL S i 21) e)) := by
  have k : ml S 23 (ma S 5 i) = datR (rI S i) (rL S i) := dt_same hs hi hi' rfl rfl rfl rfl rfl rfl
  rw [own_dat, if_pos hc, k, hl_datR (hs.lb0 hi hi') e0 e1]
theorem drop_hl (hs : SI t S) (hi : 0 ≤ i) (hi' : i < mf S 3) (hc : ma S 19 (ma S 5 i) = 0) (d0 : 0 ≤ d) (d1 : d < 60) {e : Int} (e0 : 0 ≤ e) (e1 : e < 60) : hl (datOf (sDrop S i d) (ma S 4 i) i) e = (hl (datOf S (ma S 4 i) i) e && !decide (e = d)) := by
  have k : hl (datOf (sDrop S i d) (ma S 4 i) i) e = (hl (rL S i 20 &&& (bitL d ^^^ (-1))) e || (hl (rdR (rI S i) 60).2 e && !hl (rL S i 21 ||| bitL d) e)) := hold_hl (S := S) (i := i) (ri := rI S i) (rl := updl (updl (updl (rL S i) 21 (rL S i 21 ||| bitL d)) 20 (rL S i 20 &&& (bitL d ^^^ (-1)))) 22 (rL S i 22 &&& (bitL d ^^^ (-1)))) (rd := rD S i) (LB_and (hs.lb0 hi hi')) hc e0 e1
  rw [k, now_hl hs hi hi' hc e0 e1, hl_and e0 e1, hl_not e0 e1, hl_or e0 e1, hl_bit d0 d1 e0 e1]
  cases hl (rL S i 20) e <;> cases hl (rdR (rI S i) 60).2 e <;> cases hl (rL S i 21) e <;> cases decide (e = d) <;> rfl
theorem add_hl (hs : SI t S) (hi : 0 ≤ i) (hi' : i < mf S 3) (hc : ma S 19 (ma S 5 i) = 0) (d0 : 0 ≤ d) (d1 : d < 60) {e : Int} (e0 : 0 ≤ e) (e1 : e < 60) : hl (datOf (sAdd S i d) (ma S 4 i) i) e = (hl (datOf S (ma S 4 i) i) e || decide (e = d)) := by
  have k : hl (datOf (sAdd S i d) (ma S 4 i) i) e = (hl (rL S i 20 ||| bitL d) e || (hl (rdR (rI S i) 60).2 e && !hl (rL S i 21 &&& (bitL d ^^^ (-1))) e)) := hold_hl (S := S) (i := i) (ri := rI S i) (rl := updl (updl (rL S i) 20 (rL S i 20 ||| bitL d)) 21 (rL S i 21 &&& (bitL d ^^^ (-1)))) (rd := updd (rD S i) d (rD S i d % 2048 + 2048 * rI S i 9)) (LB_or (hs.lb0 hi hi') (LB_bit d0 d1)) hc e0 e1
  rw [k, now_hl hs hi hi' hc e0 e1, hl_and e0 e1, hl_not e0 e1, hl_or e0 e1, hl_bit d0 d1 e0 e1]
  cases hl (rL S i 20) e <;> cases hl (rdR (rI S i) 60).2 e <;> cases hl (rL S i 21) e <;> cases decide (e = d) <;> rfl
theorem move_hl {c : Int} (hs : SI t S) (hi : 0 ≤ i) (hi' : i < mf S 3) (hc : ma S 19 (ma S 5 i) = 0) {e : Int} (e0 : 0 ≤ e) (e1 : e < 60) : hl (datOf (sMove S i d c) (ma S 4 i) i) e = hl (datOf S (ma S 4 i) i) e := by
  have k : hl (datOf (sMove S i d c) (ma S 4 i) i) e = (hl (rL S i 20) e || (hl (rdR (rI S i) 60).2 e && !hl (rL S i 21) e)) := hold_hl (S := S) (i := i) (ri := rI S i) (rl := updl (rL S i) 22 (rL S i 22 ||| bitL d)) (rd := updd (rD S i) d (c + 2048 * rI S i 9)) (hs.lb0 hi hi') hc e0 e1
  rw [k, now_hl hs hi hi' hc e0 e1]
theorem ask_ind (hw : WR t S) {P : Int → Prop} (stp : ∀ set k : Int, 0 ≤ set → set < 32 → P set → P (askStep S i set k)) {s0 : Int} (r0 : 0 ≤ s0) (r1 : s0 < 32) (h0 : P s0) : ∀ n, P (askAll S i s0 n) := by
  have row : ∀ set : Int, 0 ≤ set → set < 32 → P set → ∀ n, P (askRow S i set n) := fun set s0 s1 h n => by
    induction n with
    | zero => exact h
    | succ n ih =>
      have hr := askRow_r (i := i) hw s0 s1 n
      exact stp _ _ hr.1 hr.2 ih
  intro n
  induction n with
  | zero => exact h0
  | succ n ih =>
    have hr := askAll_r (i := i) hw r0 r1 n
    exact row _ hr.1 hr.2 ih 5
theorem ask_in (hs : SI t S) (i0 : 0 ≤ i) (i1 : i < mf S 3) (p0 : 0 ≤ p) (p1 : p < 5) (h : hb (ma S 17 (ma S 5 i)) p = true) : hb (asked S i) p = true := by
  have hm := hs.wr.mt i0 i1
  have hv := hs.wr.vs hm.2.1.1 hm.2.1.2
  exact ask_ind hs.wr (P := fun set => hb set p = true) (fun set k s0 s1 h => by
    show hb (askStep S i set k) p = true
    unfold askStep
    split
    next g =>
      simp only [Bool.and_eq_true, decide_eq_true_eq] at g
      rcases kept_r (i := i) (p := k) (d := -1) hs.wr with z | ⟨k0, k1, kc⟩
      · exact absurd z g.1.1.2
      · have hx := hs.wr.ms k0 k1
        rw [(hb_orb s0 s1 hx.2.2.2.2.2.2.2.2.2.1.1 hx.2.2.2.2.2.2.2.2.2.1.2 p0 p1).1, h]; rfl
    next => exact h) hv.2.2.2.2.2.2.2.2.2.1.1 hv.2.2.2.2.2.2.2.2.2.1.2 h 5
theorem ask_out (hs : SI t S) (i0 : 0 ≤ i) (i1 : i < mf S 3) (p0 : 0 ≤ p) (p1 : p < 5) (h18 : hb (ma S 18 (ma S 5 i)) p = true) : hb (asked S i) p = false := by
  have hm := hs.wr.mt i0 i1
  have hv := hs.wr.vs hm.2.1.1 hm.2.1.2
  have h17 : hb (ma S 17 (ma S 5 i)) p = false := by
    cases q : hb (ma S 17 (ma S 5 i)) p
    · rfl
    · have := hs.il i p i0 i1 p0 p1 q
      rw [h18] at this; cases this
  exact ask_ind hs.wr (P := fun set => hb set p = false) (fun set k s0 s1 h => by
    show hb (askStep S i set k) p = false
    unfold askStep
    split
    next g =>
      simp only [Bool.and_eq_true, decide_eq_true_eq] at g
      rcases kept_r (i := i) (p := k) (d := -1) hs.wr with z | ⟨k0, k1, kc⟩
      · exact absurd z g.1.1.2
      · have hx := hs.wr.ms k0 k1
        have ne : p ≠ ma S 40 (kept S i k (-1)) := fun e => by
          have g2 := g.2
          rw [← e, h18] at g2; cases g2
        rw [(hb_orb s0 s1 hx.2.2.2.2.2.2.2.2.2.1.1 hx.2.2.2.2.2.2.2.2.2.1.2 p0 p1).1, h, decide_eq_false ne]; rfl
    next => exact h) hv.2.2.2.2.2.2.2.2.2.1.1 hv.2.2.2.2.2.2.2.2.2.1.2 h17 5
theorem inv_s (hs : SI t S) (hi : 0 ≤ i) (hi' : i < mf S 3) (p0 : 0 ≤ p) (p1 : p < 5) (b : Bool) : gS (sInvite S i p b) i p b = true := by
  have hm := hs.wr.mt hi hi'
  have hv := hs.wr.vs hm.2.1.1 hm.2.1.2
  have v17 := hv.2.2.2.2.2.2.2.2.2.1
  have v18 := hv.2.2.2.2.2.2.2.2.2.2.1
  have e5 : ma (sInvite S i p b) 5 i = toOf S i := hold_5
  have e17 : ma (sInvite S i p b) 17 (toOf S i) = rInv S i p b 17 := hold_r (by decide) (by decide)
  have e18 : ma (sInvite S i p b) 18 (toOf S i) = rInv S i p b 18 := hold_r (by decide) (by decide)
  unfold gS
  rw [e5, e17, e18]
  cases b
  · show hb (orb (ma S 18 (ma S 5 i)) p) p = true
    rw [(hb_orb v18.1 v18.2 p0 p1 p0 p1).1, decide_eq_true rfl, Bool.or_true]
  · show hb (orb (ma S 17 (ma S 5 i)) p) p = true
    rw [(hb_orb v17.1 v17.2 p0 p1 p0 p1).1, decide_eq_true rfl, Bool.or_true]
end C98
/-! a law's act: it says yes, and leaves a state of which something holds -/
def GO (x : LX Int32) (L : LSt) (Q : LSt → Prop) : Prop := ∃ L', x L = some (.ok (I 1), L') ∧ Q L'
section C98g
variable {α : Type} {L L1 L2 : LSt} {Q : LSt → Prop}
theorem G_b {x : LX α} {f : α → LX Int32} (a : α) (L1 : LSt) (h1 : x L = some (.ok a, L1)) (h2 : GO (f a) L1 Q) : GO (lb x f) L Q := by
  obtain ⟨L', e, q⟩ := h2
  exact ⟨L', E_b a L1 h1 e, q⟩
theorem G_bx {x : LX Int32} {f : Int32 → LX Int32} {P : Int → Prop} (h1 : ∃ z, P z ∧ x L = some (.ok (I z), L)) (h2 : ∀ z, P z → GO (f (I z)) L Q) : GO (lb x f) L Q := by
  obtain ⟨z, p, e⟩ := h1
  exact G_b _ _ e (h2 z p)
theorem G_if1 {x : LX Bool} {y z : LX Int32} (h : x L = some (.ok true, L1)) (h2 : GO y L1 Q) : GO (lb x fun v => if v then y else z) L Q := G_b true L1 h h2
theorem G_if2 {x : LX Bool} {y z : LX Int32} (h : x L = some (.ok false, L1)) (h2 : GO z L1 Q) : GO (lb x fun v => if v then y else z) L Q := G_b false L1 h h2
theorem G_ret {x : LX Bool} (h : x L = some (.ok true, L1)) (q : Q L1) : GO (lb (lb x fun v => lp (b2i v)) lz) L Q := ⟨L1, E_ret h, q⟩
theorem G_yes (q : Q L) : GO (lb (lp (I 1)) lz) L Q := ⟨L, rfl, q⟩
theorem evh {β : Type} {x : LX α} {a : α} {f : α → LX β} (h : x L = some (.ok a, L1)) : lb x f L = f a L1 := E_b _ _ h rfl
theorem u_r1 {w x : Option (Except Nat Int32 × LSt)} {a b c : Bool} {v : Int} (e : w = if (a && b && c) = true then x else some (.ok (I (rv a b c v)), L)) (h : a = false) : w = some (.ok (I (-1000001)), L) := by subst h; exact e
theorem u_r2 {w x : Option (Except Nat Int32 × LSt)} {a b c : Bool} {v : Int} (e : w = if (a && b && c) = true then x else some (.ok (I (rv a b c v)), L)) (h : a = true) (h2 : b = false) : w = some (.ok (I (-1000002)), L) := by subst h; subst h2; exact e
theorem u_r3 {w x : Option (Except Nat Int32 × LSt)} {a b c : Bool} {v : Int} (e : w = if (a && b && c) = true then x else some (.ok (I (rv a b c v)), L)) (h : a = true) (h2 : b = true) (h3 : c = false) : w = some (.ok (I (-1000003)), L) := by subst h; subst h2; subst h3; exact e
theorem u_r0 {w x : Option (Except Nat Int32 × LSt)} {a b c : Bool} {v : Int} (e : w = if (a && b && c) = true then x else some (.ok (I (rv a b c v)), L)) (h : a = true) (h2 : b = true) (h3 : c = true) : w = x := by subst h; subst h2; subst h3; exact e
theorem tolds {told : Int} {b : Bool} (h : 0 ≤ told ↔ b = true) (r0 : -2147483648 ≤ told) (r1 : told < 2147483648) : decide (0 ≤ I told) = b := by
  have e : (0 ≤ I told) ↔ 0 ≤ told := by rw [gl0]; exact I_le (by decide) (by decide) r0 r1
  cases b
  · exact decide_eq_false (fun q => by cases h.mp (e.mp q))
  · exact decide_eq_true (e.mpr (h.mpr rfl))
theorem told_c {told : Int} {b cb : Bool} (h : 0 ≤ told ↔ b = true) (r0 : -2147483648 ≤ told) (r1 : told < 2147483648) (hc : cb = !b) : some (Except.ok (ε := Nat) (decide (b2i (decide (0 ≤ I told)) = b2i (!decide (¬ b2i cb = 0)))), L) = some (.ok true, L) := by
  rw [tolds h r0 r1]; subst hc; cases b <;> rfl
theorem told_i {told : Int} {b ib : Bool} (h : 0 ≤ told ↔ b = true) (r0 : -2147483648 ≤ told) (r1 : told < 2147483648) (hc : ib = b) : some (Except.ok (ε := Nat) (decide (b2i (decide (0 ≤ I told)) = b2i ib)), L) = some (.ok true, L) := by
  rw [tolds h r0 r1]; subst hc; cases ib <;> rfl
end C98g
section C98h
variable {L : LSt} {sv : Nat} {S' : MS} {i cz z : Int}
theorem SI.m5 {t : Int} (hs : SI t S') (i0 : 0 ≤ i) (i1 : i < mf S' 3) : ma S' 5 i ≠ -1 := by
  have := (hs.wr.mt i0 i1).2.1.1
  omega
theorem st_gen {wv : Option (Except Nat Int32 × LSt)} {okb : Bool} (h : LJ L) (i0 : 0 ≤ i) (i1 : i < mf (zS L) 3) (ht : zT L ≤ 480) (h1 : okb = true → wv = some (.ok (I (rI (zS L) i 9)), lst L S' 1)) (h2 : okb = false → wv = some (.ok (I (-1000003)), L)) (hc : okb = true → ma (zS L) 19 (ma (zS L) 5 i) = 0 ∧ CHG (zS L) S' i (ma (zS L) 19 (ma (zS L) 5 i)) ∧ SI (zT L + 1) S') : ∃ (told : Int) (L1 L2 : LSt), wv = some (.ok (I told), L1) ∧ F_L_changed sv (I i) (I told) L1 = some (.ok (I 1), L2) ∧ LJ L2 ∧ zT L2 ≤ zT L + 1 ∧ ((0 ≤ told ↔ okb = true) ∧ (okb = false → told = -1000003) ∧ -2147483648 ≤ told ∧ told < 2147483648) ∧ (okb = true → zS L2 = S') ∧ (okb = false → zS L2 = zS L) ∧ mf (zS L2) 3 = mf (zS L) 3 ∧ ma (zS L2) 4 i = ma (zS L) 4 i := by
  have w := h.si.wr
  have mt := w.mt i0 i1
  have vs := w.vs mt.2.1.1 mt.2.1.2
  cases okb
  · refine ⟨-1000003, L, L, h2 rfl, val_changed_no h i0 i1, h, by omega, ⟨⟨fun q => by omega, fun q => by cases q⟩, fun _ => rfl, by decide, by decide⟩, fun q => (by cases q), fun _ => rfl, rfl, rfl⟩
  · obtain ⟨c0, c1, c2⟩ := hc rfl
    rw [c0] at c1
    have b9 := (h.nv_r i0 i1).2.1
    have b9' : ma (zS L) 9 (ma (zS L) 5 i) ≤ 490 := by
      have := vs.2.1
      omega
    have e3 : mf S' 3 = mf (zS L) 3 := c1.1.1
    have e4 : ma S' 4 i = ma (zS L) 4 i := c1.2.1 i
    refine ⟨ma (zS L) 9 (ma (zS L) 5 i) + 1, lst L S' 1, chgL L S' i, h1 rfl, val_changed_ok h i0 i1 (c2.m5 i0 (by rw [e3]; exact i1)) c1 c0 b9', h.chg i0 i1 c1 c0 c2 (by omega), Int.le_refl _, ⟨⟨fun _ => rfl, fun _ => by omega⟩, fun q => (by cases q), by omega, by omega⟩, fun _ => rfl, fun q => (by cases q), e3, e4⟩
/-- the law's account of a meeting that is cancelled -/
theorem LJ.can (h : LJ L) (i0 : 0 ≤ i) (i1 : i < mf (zS L) 3) (c : CHG (zS L) S' i 1) (si : SI (zT L + 1) S') (ht : zT L + 1 ≤ 500) : LJ (setN (chgL L S' i) i.toNat (I (nv S' i))) := by
  obtain ⟨⟨c1, c2⟩, c3, ⟨c4, c5⟩, c6, c7, c8⟩ := c
  have nn := h.si.wr.nn
  have mt := h.si.wr.mt i0 i1
  refine ⟨⟨si, c8, ht⟩, fun j j0 j1 => ?_, fun p p0 p1 => ?_, ?_, ?_⟩
  · have j1' : j < mf (zS L) 3 := by rw [← c1]; exact j1
    show va_up (va_up (zN L) i.toNat (I (nv (zS L) i + 8))) i.toNat (I (nv S' i)) j.toNat = I (nv S' j)
    by_cases q : j = i
    · subst q
      rw [va_up_same]
    · rw [va_up_diff _ _ (by omega), va_up_diff _ _ (by omega), c6 j j0 j1' q]
      exact h.n j0 j1'
  · show va_up (zK L) (ma (zS L) 4 i).toNat (I (ma (zS L) 27 (ma (zS L) 4 i) + 1)) p.toNat = I (ma S' 27 p)
    rw [c7]
    by_cases q : p = ma (zS L) 4 i
    · rw [if_pos q, q, va_up_same]
    · rw [if_neg q, va_up_diff _ _ (by omega)]
      exact h.k p0 p1
  · exact h.g0.trans (congrArg I c1.symm)
  · exact h.g1.trans (congrArg I c2.symm)
end C98h
