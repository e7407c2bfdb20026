/-! lines, proposals that are open, a delegation -/
section C101a
variable {S : MS} {t i p k d c o : Int}
theorem line_rep (h : ma S 31 k = 1) : (20 < ((lineL S k).length : Int)) ∧ (lineL S k).getD (0 : Int).toNat 0 = 114 ∧ ((lineL S k).length : Int) < 200 := by
  have e : lineL S k = 114 :: ([101, 112, 108, 121] ++ ([32, 97 + ma S 32 k, 97 + ma S 33 k, 32, 48 + ma S 34 k, 32] ++ (dg (ma S 36 k) ++ (32 :: AW (ma S 38 k))))) := by
    unfold lineL tailL KW
    rw [h]; rfl
  have a := AW_len (ma S 38 k)
  have d := dg_len (ma S 36 k)
  rw [e]
  refine ⟨?_, rfl, ?_⟩
  · simp only [List.length_cons, List.length_append, List.length_nil]; omega
  · simp only [List.length_cons, List.length_append, List.length_nil]; omega
theorem opn_43 (hw : WR t S) (k0 : 0 ≤ k) (k1 : k < mf S 29) (h : opC S i k = true) : opens (seta S 43 k 1) i = opens S i - 1 ∧ isOpenB (seta S 43 k 1) k = false := by
  have nn := hw.nn
  have a43 : ∀ y, ma (seta S 43 k 1) 43 y = if y = k then 1 else ma S 43 y := fun y => by
    show (if 43 = 43 ∧ y = k then (1 : Int) else ma S 43 y) = _
    by_cases e : y = k
    · rw [if_pos ⟨rfl, e⟩, if_pos e]
    · rw [if_neg (fun z => e z.2), if_neg e]
  have a : ∀ J, J ≠ 43 → ma (seta S 43 k 1) J = ma S J := fun J h => seta_ne h
  have ob : ∀ y, isOpenB (seta S 43 k 1) y = (isOpenB S y && !decide (y = k)) := fun y => by
    unfold isOpenB standOf
    rw [a 31 (by decide), a 42 (by decide), a 19 (by decide), a 5 (by decide), a 34 (by decide), a 37 (by decide), a 36 (by decide), a 24 (by decide), a43, show ml (seta S 43 k 1) = ml S from rfl]
    by_cases e : y = k
    · rw [if_pos e, decide_eq_true e, show (!decide (¬ (1 : Int) = 0)) = false from rfl, Bool.and_false, Bool.false_and, Bool.false_and, Bool.false_and]
      exact (Bool.and_false _).symm
    · rw [if_neg e, decide_eq_false e]
      exact (Bool.and_true _).symm
  refine ⟨?_, by rw [ob, decide_eq_true rfl]; exact Bool.and_false _⟩
  rw [opens_c, opens_c]
  have f : mf (seta S 43 k 1) 29 = mf S 29 := rfl
  rw [f]
  refine cnt_rm k0 (by omega) h (fun e e0 e1 => ?_)
  unfold opC
  rw [a 34 (by decide), ob, Bool.and_assoc]
theorem cnt_sub {c c' : Int → Bool} : ∀ n : Nat, (∀ e : Int, 0 ≤ e → e < n → c' e = true → c e = true) → cnt c' n ≤ cnt c n := by
  intro n
  induction n with
  | zero => intro _; exact Int.le_refl _
  | succ n ih =>
    intro h
    have a := ih (fun e e0 e1 => h e e0 (by omega))
    have b := h n (by omega) (by omega)
    rw [cnt_s, cnt_s]
    by_cases q : c' n = true
    · rw [if_pos q, if_pos (b q)]; omega
    · rw [if_neg q]; split <;> omega
theorem opn_take (hs : SI t S) (hx : XI S) (k0 : 0 ≤ k) (k1 : k < mf S 29) (h : opC S i k = true) (i0 : 0 ≤ i) (i1 : i < mf S 3) : isOpenB (sTake S k) k = false ∧ opens (sTake S k) i < opens S i := by
  have nn := hs.wr.nn
  obtain ⟨c1, c2, c3, c4⟩ := opC_d h
  have ms := hs.wr.ms k0 k1
  have mt := hs.wr.mt i0 i1
  have hs1 : SI t (seta S 43 k 1) := hs.set43 k1
  have e : sTake S k = sHold (XV (seta S 43 k 1) i (rI (seta S 43 k 1) i) (updl (rL (seta S 43 k 1) i) 22 (rL (seta S 43 k 1) i 22 ||| bitL (ma S 37 k))) (updd (rD (seta S 43 k 1) i) (ma S 37 k) (ma S 41 k + 2048 * rI (seta S 43 k 1) i 9))) i (toOf (seta S 43 k 1) i) := by unfold sTake; rw [c1]; rfl
  have e' : sTake S k = sMove (seta S 43 k 1) i (ma S 37 k) (ma S 41 k) := by unfold sTake; rw [c1]
  have a43 : ∀ y, ma (seta S 43 k 1) 43 y = if y = k then 1 else ma S 43 y := fun y => by
    show (if 43 = 43 ∧ y = k then (1 : Int) else ma S 43 y) = _
    by_cases e : y = k
    · rw [if_pos ⟨rfl, e⟩, if_pos e]
    · rw [if_neg (fun z => e z.2), if_neg e]
  have am : ∀ (J : Nat) (y : Int), 28 < J → ma (sTake S k) J y = ma (seta S 43 k 1) J y := fun J y hJ => by
    rw [e, hold_SH0, sMarks_9 _ _ _ J (by omega) (by omega) (by omega), sh_a y (by omega)]
  have b43 : ∀ y, ma (sTake S k) 43 y = if y = k then 1 else ma S 43 y := fun y => (am 43 y (by decide)).trans (a43 y)
  have bo : ∀ (J : Nat) (y : Int), 28 < J → J ≠ 43 → ma (sTake S k) J y = ma S J y := fun J y h1 h2 => (am J y h1).trans (congrFun (seta_ne h2) y)
  have f29 : mf (sTake S k) 29 = mf S 29 := by rw [e, hold_SH0, sMarks_f, sh_f (by decide)]; rfl
  have n5 : ma (sTake S k) 5 i = toOf (seta S 43 k 1) i := by rw [e]; exact hold_5
  have hstand : ∀ d : Int, 0 ≤ d → d < 60 → standOf S (ma S 5 i) d ≤ standOf (sTake S k) (ma (sTake S k) 5 i) d := fun d d0 d1 => by
    have x3 := hx.2.2.1 (ma S 5 i) d mt.2.1.1 mt.2.1.2 d0 d1
    unfold standOf at x3 ⊢
    rw [n5, e, hold_SH0, sMarks_9 _ _ _ 24 (by decide) (by decide) (by decide), sh_own.2.2.2 d d0 d1]
    have q41 := ms
    unfold updd
    split
    · show ma S 24 (60 * ma S 5 i + d) / 2048 ≤ (ma S 41 k + 2048 * (ma S 9 (ma S 5 i) + 1)) / 2048
      omega
    · exact Int.le_refl _
  have hdat : ∀ d : Int, 0 ≤ d → d < 60 → hl (ml (sTake S k) 23 (ma (sTake S k) 5 i)) d = hl (ml S 23 (ma S 5 i)) d := fun d d0 d1 => by
    have g := move_hl (S := seta S 43 k 1) (d := ma S 37 k) (c := ma S 41 k) hs1 i0 i1 c3 d0 d1
    rw [← e'] at g
    have o1 := own_dat (S := sTake S k) (i := i)
    have o2 := own_dat (S := seta S 43 k 1) (i := i)
    have n4 : ma (sTake S k) 4 i = ma S 4 i := by rw [e]; exact hold_4
    have n19 : ma (sTake S k) 19 (ma (sTake S k) 5 i) = 0 := by rw [n5, e, hold_r (by decide) (by decide)]; exact c3
    rw [n4, if_pos n19] at o1
    rw [if_pos (show ma (seta S 43 k 1) 19 (ma (seta S 43 k 1) 5 i) = 0 from c3)] at o2
    have g2 : hl (datOf (sTake S k) (ma S 4 i) i) d = hl (datOf (seta S 43 k 1) (ma (seta S 43 k 1) 4 i) i) d := g
    rw [o1, o2] at g2
    exact g2
  have no : isOpenB (sTake S k) k = false := by
    unfold isOpenB
    rw [b43, if_pos rfl, show (!decide (¬ (1 : Int) = 0)) = false from rfl, Bool.and_false, Bool.false_and, Bool.false_and, Bool.false_and]
  refine ⟨no, ?_⟩
  have a1 := cnt_rm (c := fun e => opC S i e && !decide (e = k)) (c0 := opC S i) (n := (mf S 29).toNat) k0 (by omega) h (fun e e0 e1 => rfl)
  have a2 := cnt_sub (c := fun e => opC S i e && !decide (e = k)) (c' := opC (sTake S k) i) (mf S 29).toNat (fun y y0 y1 hy => by
    have msy := hs.wr.ms y0 (by omega)
    unfold opC at hy ⊢
    rw [bo 34 y (by decide) (by decide)] at hy
    rw [Bool.and_eq_true] at hy
    obtain ⟨h34, hO⟩ := hy
    have h34' := of_decide_eq_true h34
    have yk : ¬ y = k := fun q => by rw [q, no] at hO; cases hO
    show (decide (ma S 34 y = i) && isOpenB S y && !decide (y = k)) = true
    rw [h34, decide_eq_false yk, Bool.true_and]
    show (isOpenB S y && true) = true
    rw [Bool.and_true]
    unfold isOpenB at hO ⊢
    rw [bo 31 y (by decide) (by decide), bo 42 y (by decide) (by decide), b43, if_neg yk, bo 34 y (by decide) (by decide), bo 37 y (by decide) (by decide), bo 36 y (by decide) (by decide), h34'] at hO
    rw [h34']
    simp only [Bool.and_eq_true, decide_eq_true_eq, Bool.not_eq_true', decide_eq_false_iff_not, Decidable.not_not] at hO ⊢
    obtain ⟨⟨⟨⟨⟨o1, o2⟩, o3⟩, o4⟩, o5⟩, o6⟩ := hO
    have q37 := hs.mq.2 y y0 (by omega) o1
    have q60 : ma S 37 y < 60 := by omega
    rw [hdat _ q37 q60] at o5
    have s := hstand _ q37 q60
    exact ⟨⟨⟨⟨⟨o1, o2⟩, o3⟩, c3⟩, o5⟩, by omega⟩)
  rw [opens_c, opens_c, f29]
  omega
theorem opn_prop (hw : WR t S) (hf : FRV S) (h1 : mf S 29 < 150) (i0 : 0 ≤ i) (i1 : i < mf S 3) : opens (sProp S p i d c) i = opens S i ∧ isOpenB (sProp S p i d c) (mf S 29) = false ∧ ansDlv (sProp S p i d c) (mf S 29) = true := by
  have nn := hw.nn
  have k42 := (hf.2.2 (mf S 29) (by omega) h1).2.2.2.2.2.1
  obtain ⟨n31, n33, n34⟩ := prop_n (S := S) (p := p) (i := i) (d := d) (c := c)
  have e42 : ma (sProp S p i d c) 42 = ma S 42 := prop_l (by decide)
  have no : isOpenB (sProp S p i d c) (mf S 29) = false := by
    unfold isOpenB
    rw [e42, k42, show decide (¬ (0 : Int) = 0) = false from rfl, Bool.and_false, Bool.false_and, Bool.false_and, Bool.false_and, Bool.false_and]
  refine ⟨?_, no, ?_⟩
  · rw [opens_c, opens_c]
    have f : (mf (sProp S p i d c) 29).toNat = (mf S 29).toNat + 1 := by
      show (mf S 29 + 1).toNat = _
      omega
    rw [f, cnt_s]
    have z : opC (sProp S p i d c) i (((mf S 29).toNat : Nat) : Int) = false := by
      rw [show (((mf S 29).toNat : Nat) : Int) = mf S 29 by omega]
      unfold opC
      rw [no, Bool.and_false]
    rw [if_neg (by rw [z]; decide), Int.add_zero]
    refine cnt_ext _ (fun y y0 y1 => ?_)
    have ne : y ≠ mf S 29 := by omega
    have a : ∀ J : Nat, ma (sProp S p i d c) J y = ma S J y := fun J => prop_o ne
    unfold opC isOpenB standOf
    rw [a 34, a 31, a 42, a 43, a 37, a 36, prop_l (by decide : 5 < 31 ∨ 41 < 5), prop_l (by decide : 19 < 31 ∨ 41 < 19), prop_l (by decide : 24 < 31 ∨ 41 < 24)]
    rfl
  · unfold ansDlv dlvB
    rw [n31, e42, k42]; rfl
theorem del_of {X : MS} {v n : Int} (f29 : mf X 29 = n + 1) (f3 : mf X 3 = mf S 3) (a : ∀ J : Nat, J < 26 → ma X J = ma S J) (a27 : ∀ q, ma X 27 q = if q = p then ma S 27 p + 1 else ma S 27 q) (a31 : ma X 31 n = 1) : (mf (sReq X p o i v) 29 = n + 2 ∧ mf (sReq X p o i v) 3 = mf S 3) ∧ (ma (sReq X p o i v) 4 = ma S 4 ∧ ma (sReq X p o i v) 5 = ma S 5 ∧ ma (sReq X p o i v) 9 = ma S 9 ∧ ma (sReq X p o i v) 19 = ma S 19) ∧ (∀ q, ma (sReq X p o i v) 27 q = if q = p then ma S 27 p + 1 else ma S 27 q) ∧ ma (sReq X p o i v) 31 (n + 1) = 0 ∧ ma (sReq X p o i v) 33 (n + 1) = o ∧ ma (sReq X p o i v) 31 n = 1 := by
  obtain ⟨n31, n33, -, -⟩ := req_n (S := X) (f := p) (r := o) (i := i) (v := v)
  rw [f29] at n31 n33
  have e : ∀ {J : Nat}, ((9 ≤ J ∧ J ≤ 28) ∨ J < 8) → J < 26 → ma (sReq X p o i v) J = ma S J := fun h1 h2 => (funext fun y => sReq_ma h1).trans (a _ h2)
  have ne : n ≠ mf X 29 := by rw [f29]; omega
  have e31 : ma (sReq X p o i v) 31 n = ma X 31 n := req_o (J := 31) (y := n) (Nat.le_refl 31) (by decide) ne
  have e29 : mf (sReq X p o i v) 29 = n + 2 := by
    have z : mf (sReq X p o i v) 29 = mf X 29 + 1 := sReq_mf.trans (if_pos rfl)
    rw [z, f29]; omega
  have e3 : mf (sReq X p o i v) 3 = mf S 3 := (sReq_mf.trans (if_neg (by decide))).trans f3
  have e27 : ∀ q, ma (sReq X p o i v) 27 q = if q = p then ma S 27 p + 1 else ma S 27 q := fun q => (sReq_ma (Or.inl (by decide))).trans (a27 q)
  exact ⟨⟨e29, e3⟩, ⟨e (Or.inr (by decide)) (by decide), e (Or.inr (by decide)) (by decide), e (Or.inl (by decide)) (by decide), e (Or.inl (by decide)) (by decide)⟩, e27, n31, n33, e31.trans a31⟩
theorem rep_31 {d w : Int} : ma (sRep S p i d w) 31 (mf S 29) = 1 := (rep_9 (by decide) (by decide) (by decide) _).trans rep1_n.1
theorem rep_f29 {d w : Int} : mf (sRep S p i d w) 29 = mf S 29 + 1 := by rw [rep_f, if_neg (by decide), if_pos rfl]
theorem rep_f3 {d w : Int} : mf (sRep S p i d w) 3 = mf S 3 := by rw [rep_f, if_neg (by decide), if_neg (by decide)]
theorem del_st : (mf (sDel S p i o) 29 = mf S 29 + 2 ∧ mf (sDel S p i o) 3 = mf S 3) ∧ (ma (sDel S p i o) 4 = ma S 4 ∧ ma (sDel S p i o) 5 = ma S 5 ∧ ma (sDel S p i o) 9 = ma S 9 ∧ ma (sDel S p i o) 19 = ma S 19) ∧ (∀ q, ma (sDel S p i o) 27 q = if q = p then ma S 27 p + 1 else ma S 27 q) ∧ ma (sDel S p i o) 31 (mf S 29 + 1) = 0 ∧ ma (sDel S p i o) 33 (mf S 29 + 1) = o ∧ ma (sDel S p i o) 31 (mf S 29) = 1 := by
  unfold sDel
  have f29 : mf (sRep S p i (-1) 4) 29 = mf S 29 + 1 := rep_f29
  have f3 : mf (sRep S p i (-1) 4) 3 = mf S 3 := rep_f3
  have a : ∀ J : Nat, J < 26 → ma (sRep S p i (-1) 4) J = ma S J := fun J q => rep_l q
  have a27 : ∀ q, ma (sRep S p i (-1) 4) 27 q = if q = p then ma S 27 p + 1 else ma S 27 q := fun q => rep_27
  have a31 : ma (sRep S p i (-1) 4) 31 (mf S 29) = 1 := rep_31
  generalize sRep S p i (-1) 4 = R at f29 f3 a a27 a31
  have g29 : mf (seta R 40 (mf S 29) o) 29 = mf R 29 := rfl
  have g3 : mf (seta R 40 (mf S 29) o) 3 = mf R 3 := rfl
  have ga : ∀ J : Nat, J ≠ 40 → ma (seta R 40 (mf S 29) o) J = ma R J := fun J q => seta_ne q
  generalize seta R 40 (mf S 29) o = X at g29 g3 ga
  exact del_of (g29.trans f29) (g3.trans f3) (fun J q => (ga J (by omega)).trans (a J q)) (fun q => by rw [ga 27 (by decide)]; exact a27 q) (by rw [ga 31 (by decide)]; exact a31)
end C101a
/-! others -/
section C101
variable {L : LSt} {sv : Nat}
theorem here_v {S : MS} {p i : Int} (g : gPM S p i = true) : v_isThere S p i = if isHere S p i = true then 1 else 0 := rv_ok g rfl rfl
/-- what others need of the law's state, told once -/
theorem val_send (h : LJ L) (ht : zT L ≤ 480) {i : Int} (i0 : 0 ≤ i) (i1 : i < mf (zS L) 3) : (∃ c : Int, w_send (I i) L = some (.ok (I c), lst L (sSend (zS L) i) 0) ∧ (0 ≤ c ∧ c ≤ 4 ∧ mf (zS L) 29 + c ≤ 150) ∧ LJ (setG (lst L (sSend (zS L) i) 0) 1 (I (mf (zS L) 29 + c))) ∧ mf (sSend (zS L) i) 29 = mf (zS L) 29 + c ∧ mf (sSend (zS L) i) 3 = mf (zS L) 3) ∨ (w_send (I i) L = some (.ok (I (-1000003)), L) ∧ 145 < mf (zS L) 29) := by
  have w := h.si.wr
  have nn := w.nn
  have mt := w.mt i0 i1
  have gm : gM (zS L) i = true := decide_eq_true ⟨i0, i1⟩
  have c4 := cntB_4 mt.1.1 mt.1.2 (h.si.sset i0 i1)
  have c0 := (cntB_r (sendSet (zS L) i) 5).1
  by_cases q : mf (zS L) 29 + cntB (sendSet (zS L) i) 5 ≤ 150
  · obtain ⟨q1, q2, q3, q4, q5, q6, q7⟩ := sSendTo_f (set := sendSet (zS L) i) w h.si.fr i0 i1 q 5 (by decide)
    have f29 : mf (sSend (zS L) i) 29 = mf (zS L) 29 + cntB (sendSet (zS L) i) 5 := q3
    have f3 : mf (sSend (zS L) i) 3 = mf (zS L) 3 := q4
    refine Or.inl ⟨cntB (sendSet (zS L) i) 5, u_r0 (u_send (by omega) (by omega) (by omega)) gm rfl (decide_eq_true q), ⟨c0, c4, q⟩, ?_, f29, f3⟩
    exact LJ.msg (δ := 0) (S' := sSend (zS L) i) (K' := zK L) (G' := va_up (zG L) 1 (I (mf (zS L) 29 + cntB (sendSet (zS L) i) 5))) h (by rw [Int.add_zero]; exact h.si.send gm q) (send_x h.xi) (by omega) f3 (send_a (by decide)) (send_a (by decide)) (send_a (by decide)) (send_a (by decide)) (fun p p0 p1 => by rw [send_a (by decide)]; exact h.k p0 p1) ((va_up_diff _ _ (by decide)).trans h.g0) ((va_up_same _ _ _).trans (congrArg I f29.symm))
  · exact Or.inr ⟨u_r3 (u_send (by omega) (by omega) (by omega)) gm rfl (decide_eq_false q), by omega⟩
theorem val_deliver (h : LJ L) (ht : zT L ≤ 490) {m : Int} (m0 : 0 ≤ m) (m1 : m < mf (zS L) 29) : w_deliver (I m) L = some (.ok (I (if ansDlv (zS L) m = true then 1 else 0)), lst L (stDlv (zS L) m) 1) :=
  u_r0 (u_deliver (by omega) (by have := h.si.wr.nn; omega) (by have := h.si.wr.nn; omega)) (decide_eq_true ⟨m0, m1⟩) rfl rfl
end C101

