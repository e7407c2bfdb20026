section C42
variable {S S1 X Y : MS} {t u : Int} {p i q j k d w o v r f c x : Int}
theorem SI.sendTo {set : Int} (hs : SI t S) (i0 : 0 ≤ i) (i1 : i < mf S 3) (hc : mf S 29 + cntB set 5 ≤ 150) (ho : hb set (ma S 4 i) = false) : ∀ n : Nat, n ≤ 5 → SI t (sSendTo S i set n) := by
  have hm := hs.wr.mt i0 i1
  intro n
  induction n with
  | zero => exact fun _ => hs
  | succ n ih =>
    intro hn
    have ih := ih (by omega)
    obtain ⟨q1, q2, q3, q4, q5, q6, q7⟩ := sSendTo_f (set := set) hs.wr hs.fr i0 i1 hc n (by omega)
    show SI t (if hb set n = true then sReq (sSendTo S i set n) (ma S 4 i) n i (ma S 5 i) else sSendTo S i set n)
    by_cases g : hb set n = true
    · have z := cntB_mono set (n + 1) (5 - (n + 1))
      rw [show n + 1 + (5 - (n + 1)) = 5 by omega] at z
      have y : cntB set (n + 1) = cntB set n + (if hb set n = true then 1 else 0) := rfl
      rw [if_pos g] at y
      rw [if_pos g]
      refine ih.req (by omega) hm.1.1 hm.1.2 (by omega) (by omega) i0 (by omega) (by omega) (by omega) (Or.inl q7.symm) (fun e => ?_)
      rw [q6] at e
      rw [e, ho] at g
      exact absurd g (by decide)
    · rw [if_neg g]; exact ih
theorem wr_set6 (h : WR t X) (x0 : 0 ≤ x) (x1 : x < 32) : WR t (seta X 6 i x) := by
  refine ⟨h.nn, fun z g0 g1 => ?_, fun j g0 g1 => ?_, fun v g0 g1 => ?_, fun v g0 g1 d g2 g3 => ?_, fun q j g0 g1 g2 g3 => ?_, fun q g0 g1 => ?_, fun k g0 g1 => ?_⟩
  · have := h.zn g0 g1; simp [ma_setf, ml_setf, mf_setf, ma_seta, ml_seta, mf_seta, ma_setl, ml_setl, mf_setl]; omega
  · have := h.mt g0 g1; simp [ma_setf, ml_setf, mf_setf, ma_seta, ml_seta, mf_seta, ma_setl, ml_setl, mf_setl]; split <;> omega
  · have := h.vs g0 g1; simp [ma_setf, ml_setf, mf_setf, ma_seta, ml_seta, mf_seta, ma_setl, ml_setl, mf_setl]; exact this
  · have := h.dl g0 g1 g2 g3; simp [ma_setf, ml_setf, mf_setf, ma_seta, ml_seta, mf_seta, ma_setl, ml_setl, mf_setl]; exact this
  · have := h.cp g0 g1 g2 g3; simp [ma_setf, ml_setf, mf_setf, ma_seta, ml_seta, mf_seta, ma_setl, ml_setl, mf_setl]; omega
  · have := h.ps g0 g1; simp [ma_setf, ml_setf, mf_setf, ma_seta, ml_seta, mf_seta, ma_setl, ml_setl, mf_setl]; omega
  · have := h.ms g0 g1; simp [ma_setf, ml_setf, mf_setf, ma_seta, ml_seta, mf_seta, ma_setl, ml_setl, mf_setl]; exact this
theorem SI.set6 (hs : SI t X) (i0 : 0 ≤ i) (i1 : i < mf X 3) (x0 : 0 ≤ x) (x1 : x < 32) (ho : hb x (ma X 4 i) = false) : SI t (seta X 6 i x) := by
  have a : ∀ J, J ≠ 6 → ma (seta X 6 i x) J = ma X J := fun J h => seta_ne h
  have a6 : ∀ y, ma (seta X 6 i x) 6 y = if y = i then x else ma X 6 y := fun y => by
    show (if 6 = 6 ∧ y = i then x else ma X 6 y) = _
    by_cases e : y = i
    · rw [if_pos ⟨rfl, e⟩, if_pos e]
    · rw [if_neg (fun z => e z.2), if_neg e]
  obtain ⟨h1, h2, h3⟩ := hs.fr
  refine ⟨wr_set6 hs.wr x0 x1, ⟨?_, fun j j0 j1 => ?_, ?_⟩, ?_, ?_, ?_, ?_, ?_, ⟨fun j j0 j1 => ?_, ?_, ?_⟩, ?_, ?_, hs.lb, ?_⟩
  · rw [a 8 (by decide), a 9 (by decide), a 17 (by decide), a 18 (by decide), a 19 (by decide), a 24 (by decide)]; exact h1
  · have j0 : mf X 3 ≤ j := j0
    rw [a 5 (by decide), a6, if_neg (by omega), a 25 (by decide), a 26 (by decide)]; exact h2 j j0 j1
  · rw [a 36 (by decide), a 38 (by decide), a 39 (by decide), a 40 (by decide), a 41 (by decide), a 42 (by decide), a 43 (by decide)]; exact h3
  · have := hs.mq; unfold MQS at this ⊢; rw [a 31 (by decide), a 37 (by decide)]; exact this
  · have := hs.lo; unfold LO at this ⊢; rw [a 18 (by decide), a 5 (by decide), a 4 (by decide)]; exact this
  · have := hs.rp; unfold RP at this ⊢; rw [a 31 (by decide), a 39 (by decide)]; exact this
  · have := hs.sq; unfold SQ at this ⊢; rw [a 25 (by decide), a 5 (by decide), a 9 (by decide), a 31 (by decide), a 34 (by decide), a 35 (by decide)]; exact this
  · have := hs.il; unfold IL at this ⊢; rw [a 17 (by decide), a 18 (by decide), a 5 (by decide)]; exact this
  · have := hs.no.1 j j0 j1
    rw [a 17 (by decide), a 5 (by decide), a 4 (by decide), a6]
    by_cases e : j = i
    · subst e; rw [if_pos rfl]; exact ⟨this.1, ho⟩
    · rw [if_neg e]; exact this
  · rw [a 31 (by decide), a 38 (by decide), a 40 (by decide), a 4 (by decide), a 34 (by decide)]; exact hs.no.2.1
  · rw [a 31 (by decide), a 33 (by decide), a 4 (by decide), a 34 (by decide)]; exact hs.no.2.2
  · have := hs.nv; unfold NV at this ⊢; rw [a 5 (by decide), a 25 (by decide), a 8 (by decide), a 31 (by decide), a 35 (by decide)]; exact this
  · intro v v0 v1
    have := hs.dt v v0 v1
    rw [dts_R] at this ⊢
    refine this.trans (datR_cg ?_ ?_ ?_ ?_ rfl rfl).symm
    · rw [a 11 (by decide)]
    · rw [a 14 (by decide)]
    · rw [a 15 (by decide)]
    · rw [a 16 (by decide)]
  · have := hs.de; unfold DE at this ⊢; rw [a 26 (by decide)]; exact this
theorem SI.send (hs : SI t S) (g1 : gM S i = true) (hc : mf S 29 + cntB (sendSet S i) 5 ≤ 150) : SI t (sSend S i) := by
  have q := gM_d g1
  have hss := sendSet_r (i := i) hs.wr
  have ho := hs.sset q.1 q.2
  obtain ⟨q1, q2, q3, q4, q5, q6, q7⟩ := sSendTo_f (set := sendSet S i) hs.wr hs.fr q.1 q.2 hc 5 (by decide)
  exact (hs.sendTo q.1 q.2 hc ho 5 (by decide)).set6 q.1 (by rw [q4]; exact q.2) hss.1 hss.2 (by rw [q6]; exact ho)
theorem fr_set42 (hf : FRV S) (hk : k < mf S 29) : FRV (seta S 42 k 1) := by
  refine ⟨fun u g0 g1 => ?_, fun j g0 g1 => ?_, fun y g0 g1 => ?_⟩
  · have := hf.1 u g0 g1; simp [ma_setf, ml_setf, mf_setf, ma_seta, ml_seta, mf_seta, ma_setl, ml_setl, mf_setl]; exact this
  · have := hf.2.1 j g0 g1; simp [ma_setf, ml_setf, mf_setf, ma_seta, ml_seta, mf_seta, ma_setl, ml_setl, mf_setl]; exact this
  · have g0 : mf S 29 ≤ y := g0
    have := hf.2.2 y g0 g1; simp [ma_setf, ml_setf, mf_setf, ma_seta, ml_seta, mf_seta, ma_setl, ml_setl, mf_setl]; rw [if_neg (by omega)]; exact this
theorem SI.set42 (hs : SI t S) (hk : k < mf S 29) : SI t (seta S 42 k 1) := hs.ex (EX.seta S 42 k 1) (by decide) (wr_set42 hs.wr) (fr_set42 hs.fr hk)
theorem SI.bec1 (hs : SI t S) (k0 : 0 ≤ k) (k1 : k < mf S 29) (kk : ma S 31 k = 0) : SI t (sBec1 S k) := by
  have hx := hs.wr.ms k0 k1
  have hn := hs.wr.nn
  have hi : 0 ≤ ma S 34 k ∧ ma S 34 k < mf S 3 := hx.2.2.2.1
  have hr : 0 ≤ ma S 33 k ∧ ma S 33 k < 5 := hx.2.2.1
  have sq := hs.sq.2 k k0 k1 kk
  have nv := hs.nv.2.2.1 k k0 k1 kk
  have hw := wr_bec1 hs.wr k0 k1
  have a : ∀ J, J ≠ 25 → ma (sBec1 S k) J = ma S J := fun J h => seta_ne h
  have a25 : ∀ y, ma (sBec1 S k) 25 y = if y = 8 * ma S 33 k + ma S 34 k then ma S 35 k else ma S 25 y := fun y => by
    show (if 25 = 25 ∧ y = 8 * ma S 33 k + ma S 34 k then ma S 35 k else ma S 25 y) = _
    by_cases e : y = 8 * ma S 33 k + ma S 34 k
    · rw [if_pos ⟨rfl, e⟩, if_pos e]
    · rw [if_neg (fun z => e z.2), if_neg e]
  have f : ∀ J, mf (sBec1 S k) J = mf S J := fun _ => rfl
  have el : ml (sBec1 S k) = ml S := rfl
  generalize sBec1 S k = X at hw a a25 f el
  obtain ⟨h1, h2, h3⟩ := hs.fr
  refine ⟨hw, ⟨?_, fun j j0 j1 => ?_, ?_⟩, ?_, ?_, ?_, ⟨fun p j p0 p1 j0 j1 => ?_, ?_⟩, ?_, ?_, ⟨?_, fun p j p0 p1 j0 j1 => ?_, ?_, ?_, ?_⟩, ?_, ?_, ?_⟩
  · rw [f, el, a 8 (by decide), a 9 (by decide), a 17 (by decide), a 18 (by decide), a 19 (by decide), a 24 (by decide)]; exact h1
  · rw [f] at j0
    have := h2 j j0 j1
    rw [a 5 (by decide), a 6 (by decide), a 26 (by decide)]
    exact ⟨this.1, fun q q0 q1 => by rw [a25, if_neg (by omega)]; exact this.2 q q0 q1⟩
  · rw [f, a 36 (by decide), a 38 (by decide), a 39 (by decide), a 40 (by decide), a 41 (by decide), a 42 (by decide), a 43 (by decide)]; exact h3
  · have := hs.mq; unfold MQS at this ⊢; rw [f, f, a 31 (by decide), a 37 (by decide)]; exact this
  · have := hs.lo; unfold LO at this ⊢; rw [f, a 18 (by decide), a 5 (by decide), a 4 (by decide)]; exact this
  · have := hs.rp; unfold RP at this ⊢; rw [f, f, a 31 (by decide), a 39 (by decide)]; exact this
  · rw [f] at j1
    rw [a25, a 5 (by decide), a 9 (by decide)]
    by_cases e : 8 * p + j = 8 * ma S 33 k + ma S 34 k
    · have ej : j = ma S 34 k := by omega
      rw [if_pos e, ej]; exact Or.inr sq
    · rw [if_neg e]; exact hs.sq.1 p j p0 p1 j0 j1
  · rw [f, a 5 (by decide), a 9 (by decide), a 31 (by decide), a 34 (by decide), a 35 (by decide)]; exact hs.sq.2
  · have := hs.il; unfold IL at this ⊢; rw [f, a 17 (by decide), a 18 (by decide), a 5 (by decide)]; exact this
  · have := hs.no; unfold NO at this ⊢; rw [f, f, a 17 (by decide), a 5 (by decide), a 4 (by decide), a 6 (by decide), a 31 (by decide), a 38 (by decide), a 40 (by decide), a 34 (by decide), a 33 (by decide)]; exact this
  · rw [f, a 5 (by decide)]; exact hs.nv.1
  · rw [f] at j1
    rw [a25, a 8 (by decide)]
    by_cases e : 8 * p + j = 8 * ma S 33 k + ma S 34 k
    · rw [if_pos e]; exact Or.inr nv.2
    · rw [if_neg e]; exact hs.nv.2.1 p j p0 p1 j0 j1
  · rw [f, a 31 (by decide), a 35 (by decide), a 8 (by decide)]; exact hs.nv.2.2.1
  · rw [f, f, f, a 5 (by decide), a 35 (by decide)]; exact hs.nv.2.2.2.1
  · rw [f, f, a 8 (by decide), a 35 (by decide)]; exact hs.nv.2.2.2.2
  · intro v v0 v1
    rw [f] at v1
    rw [el, hs.dt v v0 v1, dts_R, dts_R, el]
    exact datR_cg (by rw [a 11 (by decide)]) (by rw [a 14 (by decide)]) (by rw [a 15 (by decide)]) (by rw [a 16 (by decide)]) rfl rfl
  · have := hs.lb; unfold LBS at this ⊢; rw [el, f]; exact this
  · have := hs.de; unfold DE at this ⊢; rw [a 26 (by decide)]; exact this
theorem SI.dlv (hs : SI t S) (ht : t + 2 ≤ 600) (g1 : gK S k = true) : SI (t + 1) (stDlv S k) := by
  have q := gK_d g1
  have hx := hs.wr.ms q.1 q.2
  have up := hs.up (show t ≤ t + 1 by omega) (by omega)
  have hb27 : ∀ p, 0 ≤ p → p < 5 → ma S 27 p ≤ 2 * (t + 1) - 1 := fun p p0 p1 => by
    have := hs.wr.ps p0 p1; omega
  unfold stDlv
  by_cases k0 : ma S 31 k = 0
  · rw [if_pos k0]
    unfold sBec
    by_cases g : becB S k = true
    · rw [if_pos g]
      refine (up.bec1 q.1 q.2 k0).marks (by omega) (fun p p0 p1 => ?_) hx.2.2.1.1 hx.2.2.1.2 hx.2.2.2.1.1 hx.2.2.2.1.2
      unfold sBec1
      rw [seta_ne (show 27 ≠ 25 by decide)]; exact hb27 p p0 p1
    · rw [if_neg g]; exact up
  · rw [if_neg k0]
    unfold sDlv
    by_cases g : (dlvB S k && decide (ma S 31 k = 1)) = true
    · rw [if_pos g]
      refine (up.set42 q.2).marks (by omega) (fun p p0 p1 => ?_) hx.2.2.1.1 hx.2.2.1.2 hx.2.2.2.1.1 hx.2.2.2.1.2
      rw [seta_ne (show 27 ≠ 42 by decide)]; exact hb27 p p0 p1
    · rw [if_neg g]; exact up.set42 q.2
end C42
