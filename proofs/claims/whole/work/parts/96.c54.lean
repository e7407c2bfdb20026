/-! pairs of calls: delegates, delivery -/
section C54
variable {sv : Nat} {G : GM} {S S1 : MS} {m : QM} {t : Int} {i d c s w p z o a b l k : Int}
theorem ansDlv_45 {x : Int} : ansDlv (setf S 45 x) k = ansDlv S k := by
  have e1 : dlvB (setf S 45 x) k = dlvB S k := by
    unfold dlvB
    rw [kept_ma (S := seta S 42 k 1) (S' := seta (setf S 45 x) 42 k 1) rfl rfl]
    rfl
  unfold ansDlv
  rw [e1]; rfl
theorem del_45 {X : MS} {x : Int} : mf (sReq X p o i x) 45 = mf X 45 := rfl
theorem dlv_45 {X : MS} : mf (stDlv X k) 45 = mf X 45 := by
  unfold stDlv sBec sDlv
  split
  · split
    · exact (sMarks_f _ _ _ 45).trans rfl
    · rfl
  · split
    · exact (sMarks_f _ _ _ 45).trans rfl
    · rfl
theorem j_deliver (h : CR sv G S m) (hs : SI t S) (ht : t + 2 ≤ 600) (hR : RM (sv + 20) S m) (kl : -2147483648 ≤ k) (kh : k < 2147483648) : JN sv t (F_X6_deliver sv (I k)) (F_X7_deliver (sv + 20) (I k)) m (rs3 (gK S k) true true (b2i (ansDlv S k))) (if (gK S k && true && true) = true then b2i (ansDlv S k) else I 0) (gc (gK S k) true true) := by
  have hx := q_deliver (k := k) (h.thr 0) (hs.thr 0) ht kl kh
  rw [gK_45, ansDlv_45] at hx
  have hP := e_deliver (k := k) hs.wr (by omega) kl kh
  have h1 : (gK S k && true && true) = true → SI (t + 1) (stDlv (setf S 45 0) k) := fun g => by
    have g1 := Bool.and_eq_true_iff.mp g
    have g2 := Bool.and_eq_true_iff.mp g1.1
    exact (hs.thr 0).dlv ht g2.1
  have h2 : mf (stDlv (setf S 45 0) k) 45 = 0 := dlv_45.trans rfl
  generalize stDlv (setf S 45 0) k = X at hx hP h1 h2
  have hP' : P_X7_deliver (I k) S = if (gK S k && true && true) = true then some (b2i (ansDlv S k), X) else some (I 0, setf S 45 (gc (gK S k) true true)) := by
    rw [hP]
    cases g : gK S k
    · rfl
    · rfl
  exact join hs (by omega) hR hx (sm_X7_deliver _ _) hP' rfl h1 (fun _ => h2)
end C54
