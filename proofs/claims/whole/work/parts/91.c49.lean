/-! a call of the class and the same call of the reference -/
section C49
variable {sv : Nat} {G : GM} {S S1 : MS} {m : QM} {t : Int}
/-- what a pair of calls leaves: the class answers r, the reference w, and says that e was thrown -/
def JN (sv : Nat) (t : Int) (x y : QX Int32) (m : QM) (r : Except Nat Int32) (w : Int32) (e : Int) : Prop := ∃ G' S' m1 S0, x m = some (r, m1) ∧ KP sv m m1 ∧ CR sv G' S' m1 ∧ SI (t + 1) S' ∧ mf S' 45 = e ∧ RM (sv + 20) S0 m1 ∧ ∀ m9, RM (sv + 20) S0 m9 → ∃ m2, y m9 = some (.ok w, m2) ∧ RM (sv + 20) S' m2 ∧ FM (sv + 20) m9 m2
theorem join {x y : QX Int32} {P : PX Int32} {a b c a' b' c' : Bool} {v w : Int32} (hs : SI t S) (ht : t + 1 ≤ 600) (hR : RM (sv + 20) S m) (hx : OUTR sv x m a b c v S1 (setf S 45 0)) (hy : SIM (sv + 20) y P) (hP : P S = if (a' && b' && c') = true then some (v, S1) else some (w, setf S 45 (gc a' b' c'))) (hg : (a' && b' && c') = (a && b && c)) (h1 : (a && b && c) = true → SI (t + 1) S1) (h45 : (a && b && c) = true → mf S1 45 = 0) :
    JN sv t x y m (rs3 a b c v) (if (a && b && c) = true then v else w) (gc a' b' c') := by
  unfold OUTR at hx
  rw [hg] at hP
  by_cases g : (a && b && c) = true
  · rw [if_pos g] at hx hP ⊢
    obtain ⟨G', m1, e1, c1, k1⟩ := hx
    have g2 : (a' && b' && c') = true := hg.trans g
    have g3 := Bool.and_eq_true_iff.mp g
    have g4 := Bool.and_eq_true_iff.mp g3.1
    rw [rs3_4 g4.1 g4.2 g3.2, gc0 g2]
    exact ⟨G', S1, m1, S, e1, k1, c1, h1 g, h45 g, hR.kp k1, fun m9 h9 => hy S m9 v S1 h9 hP⟩
  · rw [if_neg g] at hx hP ⊢
    obtain ⟨G', m1, e1, c1, k1⟩ := hx
    exact ⟨G', _, m1, S, e1, k1, CR.thr' (y := gc a' b' c') c1, (hs.up (by omega) ht).thr _, (show (if 45 = 45 then gc a' b' c' else mf S 45) = gc a' b' c' from if_pos rfl), hR.kp k1, fun m9 h9 => hy S m9 w _ h9 hP⟩
theorem marks_45 {p i : Int} : mf (sMarks S p i) 45 = mf S 45 := sMarks_f S p i 45
theorem hold_45 {i v : Int} : mf (sHold S i v) 45 = mf S 45 := (sMarks_f _ _ _ 45).trans rfl
theorem gM_45 {i x : Int} : gM (setf S 45 x) i = gM S i := id rfl
theorem gH_45 {i x : Int} : gH (setf S 45 x) i = gH S i := id rfl
theorem gK_45 {i x : Int} : gK (setf S 45 x) i = gK S i := id rfl
theorem rI_45 {i x : Int} : rI (setf S 45 x) i 9 = rI S i 9 := id rfl
theorem j_time {i d c l : Int} (h : CR sv G S m) (hs : SI t S) (ht : t + 2 ≤ 600) (hR : RM (sv + 20) S m) (il : -2147483648 ≤ i) (ih : i < 2147483648) (dl : -2147483648 ≤ d) (dh : d < 2147483648) (cl : -2147483648 ≤ c) (ch : c < 2147483648) (ll : -2147483648 ≤ l) (lh : l < 2147483648) : JN sv t (F_X6_time sv (I i) (I d) (I c) (I l)) (F_X7_time (sv + 20) (I i) (I d) (I c) (I l)) m (rs3 (gM S i) (gT d c l) (gH S i) (I (rI S i 9))) (if (gM S i && gT d c l && gH S i) = true then I (rI S i 9) else I 0) (gc (gM S i) (gT d c l) (gH S i)) := by
  have hx := q_time (d := d) (c := c) (l := l) (h.thr 0) (hs.thr 0) ht il ih dl dh cl ch ll lh
  rw [gM_45, gH_45, rI_45] at hx
  have hP := e_time (hs.vok ht) il ih dl dh cl ch ll lh
  have h1 : (gM S i && gT d c l && gH S i) = true → SI (t + 1) (sTime (setf S 45 0) i d c l) := fun g => by
    have g1 := Bool.and_eq_true_iff.mp g
    have g2 := Bool.and_eq_true_iff.mp g1.1
    exact (hs.thr 0).time ht g2.1 g2.2
  have h2 : mf (sTime (setf S 45 0) i d c l) 45 = 0 := hold_45.trans rfl
  generalize sTime (setf S 45 0) i d c l = X at hx hP h1 h2
  exact join hs (by omega) hR hx (sm_X7_time _ _ _ _ _) hP rfl h1 (fun _ => h2)
end C49
