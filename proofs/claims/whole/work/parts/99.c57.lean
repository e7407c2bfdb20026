/-! more pairs of questions -/
section C57
variable {sv : Nat} {G : GM} {S S1 : MS} {m : QM} {t : Int} {i d c w p z k : Int}
theorem j_messages (h : CR sv G S m) (hs : SI t S) (ht : t + 2 ≤ 600) (hR : RM (sv + 20) S m) : JN sv t (F_X6_messages sv) (F_X7_messages (sv + 20)) m (.ok (I (mf S 29))) (I (mf S 29)) 0 := joinQ hs (by omega) hR (q_messages h) (sm_X7_messages _) e_messages
theorem j_receiver (h : CR sv G S m) (hs : SI t S) (ht : t + 2 ≤ 600) (hR : RM (sv + 20) S m) (kl : -2147483648 ≤ k) (kh : k < 2147483648) : JN sv t (F_X6_receiver sv (I k)) (F_X7_receiver (sv + 20) (I k)) m (rs3 (gK S k) true true (I (ma S 33 k))) (if gK S k = true then I (ma S 33 k) else I 0) (gc (gK S k) true true) :=
  joinQ hs (by omega) hR (q_receiver h hs.wr kl kh) (sm_X7_receiver _ _) (q3 (e_receiver hs.wr kl kh))
theorem j_sequence (h : CR sv G S m) (hs : SI t S) (ht : t + 2 ≤ 600) (hR : RM (sv + 20) S m) (pl : -2147483648 ≤ p) (ph : p < 2147483648) (il : -2147483648 ≤ i) (ih : i < 2147483648) : JN sv t (F_X6_sequence sv (I p) (I i)) (F_X7_sequence (sv + 20) (I p) (I i)) m (rs3 (gPM S p i) true true (I (seqOf S p i))) (if gPM S p i = true then I (seqOf S p i) else I 0) (gc (gPM S p i) true true) :=
  joinQ hs (by omega) hR (q_sequence h hs pl ph il ih) (sm_X7_sequence _ _ _) (q3 (e_sequence hs.wr pl ph il ih))
theorem j_local (h : CR sv G S m) (hs : SI t S) (ht : t + 2 ≤ 600) (hR : RM (sv + 20) S m) (zl : -2147483648 ≤ z) (zh : z < 2147483648) (wl : -2147483648 ≤ w) (wh : w < 2147483648) : JN sv t (F_X6_local sv (I z) (I w)) (F_X7_local (sv + 20) (I z) (I w)) m (rs3 (gZ z) (gH2 w) true (I (sLoc S z w))) (if (gZ z && gH2 w && true) = true then I (sLoc S z w) else I 0) (gc (gZ z) (gH2 w) true) :=
  joinQ hs (by omega) hR (q_local h hs.wr zl zh wl wh) (sm_X7_local _ _ _) (q2 (e_local hs.wr zl zh wl wh))
end C57
