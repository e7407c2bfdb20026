/-! pairs of questions -/
section C56
variable {sv : Nat} {G : GM} {S S1 : MS} {m : QM} {t : Int} {i d c w p z k : Int}
theorem joinQ {x y : QX Int32} {P : PX Int32} {r : Except Nat Int32} {w : Int32} {e : Int} (hs : SI t S) (ht : t + 1 ≤ 600) (hR : RM (sv + 20) S m) (hx : OUT sv x m r S) (hy : SIM (sv + 20) y P) (hP : P S = some (w, setf S 45 e)) : JN sv t x y m r w e := by
  obtain ⟨G', m1, e1, c1, k1⟩ := hx
  exact ⟨G', _, m1, S, e1, k1, c1.thr e, (hs.up (by omega) ht).thr _, (show (if 45 = 45 then e else mf S 45) = e from if_pos rfl), hR.kp k1, fun m9 h9 => hy S m9 w _ h9 hP⟩
theorem q3 {P : PX Int32} {g : Bool} {v w : Int32} (hP : P S = if g = true then some (v, setf S 45 0) else some (w, setf S 45 1)) : P S = some (if g = true then v else w, setf S 45 (gc g true true)) := by
  rw [hP]; cases g <;> rfl
theorem q2 {P : PX Int32} {a b c : Bool} {v w : Int32} (hP : P S = if (a && b && c) = true then some (v, setf S 45 0) else some (w, setf S 45 (gc a b c))) : P S = some (if (a && b && c) = true then v else w, setf S 45 (gc a b c)) := by
  rw [hP]
  by_cases g : (a && b && c) = true
  · rw [if_pos g, if_pos g, gc0 g]
  · rw [if_neg g, if_neg g]
theorem j_meetings (h : CR sv G S m) (hs : SI t S) (ht : t + 2 ≤ 600) (hR : RM (sv + 20) S m) : JN sv t (F_X6_meetings sv) (F_X7_meetings (sv + 20)) m (.ok (I (mf S 3))) (I (mf S 3)) 0 := joinQ hs (by omega) hR (q_meetings h) (sm_X7_meetings _) e_meetings
theorem j_kindOf (h : CR sv G S m) (hs : SI t S) (ht : t + 2 ≤ 600) (hR : RM (sv + 20) S m) (kl : -2147483648 ≤ k) (kh : k < 2147483648) : JN sv t (F_X6_kindOf sv (I k)) (F_X7_kindOf (sv + 20) (I k)) m (rs3 (gK S k) true true (I (ma S 31 k))) (if gK S k = true then I (ma S 31 k) else I 0) (gc (gK S k) true true) :=
  joinQ hs (by omega) hR (q_kindOf h hs.wr kl kh) (sm_X7_kindOf _ _) (q3 (e_kindOf hs.wr kl kh))
theorem j_isThere (h : CR sv G S m) (hs : SI t S) (ht : t + 2 ≤ 600) (hR : RM (sv + 20) S m) (pl : -2147483648 ≤ p) (ph : p < 2147483648) (il : -2147483648 ≤ i) (ih : i < 2147483648) : JN sv t (F_X6_isThere sv (I p) (I i)) (F_X7_isThere (sv + 20) (I p) (I i)) m (rs3 (gPM S p i) true true (b2i (isHere S p i))) (if gPM S p i = true then b2i (isHere S p i) else b2i false) (gc (gPM S p i) true true) :=
  joinQ hs (by omega) hR (q_isThere h hs pl ph il ih) (sm_X7_isThere _ _ _) (q3 (e_isThere hs.wr pl ph il ih))
theorem j_common (h : CR sv G S m) (hs : SI t S) (ht : t + 2 ≤ 600) (hR : RM (sv + 20) S m) (zl : -2147483648 ≤ z) (zh : z < 2147483648) (wl : -2147483648 ≤ w) (wh : w < 2147483648) : JN sv t (F_X6_common sv (I z) (I w)) (F_X7_common (sv + 20) (I z) (I w)) m (rs3 (gZ z) (gH2 w) true (I (sCom S z w))) (if (gZ z && gH2 w && true) = true then I (sCom S z w) else I 0) (gc (gZ z) (gH2 w) true) :=
  joinQ hs (by omega) hR (q_common h hs.wr zl zh wl wh) (sm_X7_common _ _ _) (q2 (e_common hs.wr zl zh wl wh))
end C56
