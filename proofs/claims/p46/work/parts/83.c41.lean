theorem hori_t : ∀ x, x < 32 → ∀ y, y < 32 → ∀ z, z < 5 → hb (ori ((x : Nat) : Int) ((y : Nat) : Int)) ((z : Nat) : Int) = (hb ((x : Nat) : Int) ((z : Nat) : Int) || hb ((y : Nat) : Int) ((z : Nat) : Int)) := by decide +kernel
theorem hb_ori {x y z : Int} (a : 0 ≤ x) (b : x < 32) (c : 0 ≤ y) (d : y < 32) (e : 0 ≤ z) (f : z < 5) : hb (ori x y) z = (hb x z || hb y z) := by
  obtain ⟨x', rfl⟩ := Int.eq_ofNat_of_zero_le a
  obtain ⟨y', rfl⟩ := Int.eq_ofNat_of_zero_le c
  obtain ⟨z', rfl⟩ := Int.eq_ofNat_of_zero_le e
  exact hori_t x' (by omega) y' (by omega) z' (by omega)
section C41
variable {S S1 X Y : MS} {t u : Int} {p i q j k d w o v r f c x : Int}
theorem seta_own {K : Nat} {z : Int} : seta S K z (ma S K z) = S := Prod.ext (funext fun L => funext fun u => by
  show (if L = K ∧ u = z then ma S K z else ma S L u) = ma S L u
  by_cases c : L = K ∧ u = z
  · rw [if_pos c, c.1, c.2]
  · rw [if_neg c]) rfl
theorem SI.rep (hs : SI t S) (ht : t + 2 ≤ 600) (hn : mf S 29 < 150) (p0 : 0 ≤ p) (p1 : p < 5) (i0 : 0 ≤ i) (i1 : i < mf S 3) (hc : ma S 25 (8 * p + i) ≠ -1) (d0 : -1 ≤ d) (d1 : d < 60) (w0 : 0 ≤ w) (w1 : w ≤ 3) : SI (t + 1) (sRep S p i d w) := by
  have h0 := hs.wr.nn
  have k42 := (hs.fr.2.2 (mf S 29) (by omega) hn)
  have u40 : ma (sRep1 S p i d w) 40 (mf S 29) = 0 := by simp [sRep1, sAdds, ma_setf, ml_setf, mf_setf, ma_seta, ml_seta, mf_seta, ma_setl, ml_setl, mf_setl, k42]
  have h1 := hs.rep1 (d := d) (w := w) (o := 0) hn p0 p1 i0 i1 hc d0 d1 w0 (by omega) (by omega) (by omega) (by omega) _ rfl
  have e1 : seta (sRep1 S p i d w) 40 (mf S 29) 0 = sRep1 S p i d w := by
    have := seta_own (S := sRep1 S p i d w) (K := 40) (z := mf S 29)
    rw [u40] at this; exact this
  rw [e1] at h1
  have ea := ea_rep (S := S) (p := p) (i := i) (d := d) (w := w)
  have e2 : sRep S p i d w = sMarks (sRep1 S p i d w) p i := rfl
  rw [e2]
  refine (h1.up (show t ≤ t + 1 by omega) (by omega)).marks (by omega) (fun q q0 q1 => ?_) p0 p1 i0 (by rw [ea.2.2.2.1 3 (by decide) (by decide)]; exact i1)
  rw [ea.1 27 (by decide) (by decide)]
  have := hs.wr.ps q0 q1
  omega
theorem SI.del (hs : SI t S) (ht : t + 2 ≤ 600) (hn : mf S 29 + 2 ≤ 150) (p0 : 0 ≤ p) (p1 : p < 5) (i0 : 0 ≤ i) (i1 : i < mf S 3) (hc : ma S 25 (8 * p + i) ≠ -1) (o0 : 0 ≤ o) (o1 : o < 5) (ho : o ≠ ma S 4 i) : SI (t + 1) (sDel S p i o) := by
  have h0 := hs.wr.nn
  obtain ⟨SP, SR, d1, d2, sr, hW, ea, f30, _, hwm, hfm, n29, n3, n25⟩ := del_f (p := p) (i := i) (x := -1) (y := 4) hs ht (by omega) p0 p1 i0 i1 hc (by decide) (by decide) (by decide) (by decide)
  have h1 := hs.rep1 (d := -1) (w := 4) (o := o) (by omega) p0 p1 i0 i1 hc (by decide) (by decide) (by decide) (by decide) o0 o1 (fun _ => ho) SP d1
  have h2 : SI (t + 1) (sMarks (seta SP 40 (mf S 29) o) p i) := by
    refine (h1.up (show t ≤ t + 1 by omega) (by omega)).marks (by omega) (fun q q0 q1 => ?_) p0 p1 i0 (show i < mf SP 3 by rw [ea.2.2.2.1 3 (by decide) (by decide)]; exact i1)
    rw [seta_ne (show 27 ≠ 40 by decide), ea.1 27 (by decide) (by decide)]
    have := hs.wr.ps q0 q1
    omega
  rw [marks_40, ← sr] at h2
  have dl : sDel S p i o = sReq (seta SR 40 (mf S 29) o) p o i (ma S 25 (8 * p + i)) := by rw [d2]; rfl
  rw [dl]
  have n40 : ∀ {J : Nat} (y : Int), J ≠ 40 → ma (seta SR 40 (mf S 29) o) J y = ma SR J y := fun y z => congrFun (seta_ne z) y
  have m3 : mf (seta SR 40 (mf S 29) o) 3 = mf S 3 := n3
  have k25 : ma (seta SR 40 (mf S 29) o) 25 (8 * p + i) = ma S 25 (8 * p + i) := (n40 _ (by decide)).trans (n25 _)
  have cp := h2.wr.cp p0 p1 i0 (show i < 8 by omega)
  have sq := h2.sq.1 p i p0 p1 i0 (by rw [m3]; exact i1)
  rw [k25] at cp sq
  have k4 : ma (seta SR 40 (mf S 29) o) 4 i = ma S 4 i := by
    rw [n40 _ (by decide), sr, (EP.marks SP p i).1 4 (by decide) (by decide) (by decide), ea.1 4 (by decide) (by decide)]
  exact h2.req (show mf SR 29 < 150 by rw [n29]; omega) p0 p1 o0 o1 i0 (by rw [m3]; exact i1) (by omega) (by omega) (by rcases sq with z | z; exact absurd z hc; exact z) (by rw [k4]; exact ho)
theorem wr_prop (h : WR t S) (hf : FRV S) (h1 : mf S 29 < 150) (a2 : 0 ≤ p) (a3 : p < 5) (a6 : 0 ≤ i) (a7 : i < mf S 3) (hc : ma S 25 (8 * p + i) ≠ -1) (a8 : 0 ≤ d) (a9 : d < 60) (b0 : 0 ≤ c) (b1 : c < 1440) : WR t (sProp S p i d c) := by
  have hn := h.nn
  have hm := h.mt a6 a7
  have hcc := h.cp a2 a3 a6 (show i < 8 by omega)
  have hv := h.vs (v := ma S 25 (8 * p + i)) (by omega) (by omega)
  have hfk := hf.2.2 (mf S 29) (by omega) (by omega)
  unfold sProp sAdds
  refine ⟨?_, fun z g0 g1 => ?_, fun j g0 g1 => ?_, fun v g0 g1 => ?_, fun v g0 g1 d g2 g3 => ?_, fun q j g0 g1 g2 g3 => ?_, fun q g0 g1 => ?_, fun k g0 g1 => ?_⟩
  · simp [ma_setf, ml_setf, mf_setf, ma_seta, ml_seta, mf_seta, ma_setl, ml_setl, mf_setl]; omega
  · have := h.zn g0 g1; simp [ma_setf, ml_setf, mf_setf, ma_seta, ml_seta, mf_seta, ma_setl, ml_setl, mf_setl]; omega
  · simp [ma_setf, ml_setf, mf_setf, ma_seta, ml_seta, mf_seta, ma_setl, ml_setl, mf_setl] at g1 ⊢
    have := h.mt g0 g1; omega
  · simp [ma_setf, ml_setf, mf_setf, ma_seta, ml_seta, mf_seta, ma_setl, ml_setl, mf_setl] at g1 ⊢
    exact h.vs g0 g1
  · simp [ma_setf, ml_setf, mf_setf, ma_seta, ml_seta, mf_seta, ma_setl, ml_setl, mf_setl] at g1 ⊢
    exact h.dl g0 g1 g2 g3
  · simp [ma_setf, ml_setf, mf_setf, ma_seta, ml_seta, mf_seta, ma_setl, ml_setl, mf_setl]
    exact h.cp g0 g1 g2 g3
  · have := h.ps g0 g1; simp [ma_setf, ml_setf, mf_setf, ma_seta, ml_seta, mf_seta, ma_setl, ml_setl, mf_setl]; omega
  · simp [ma_setf, ml_setf, mf_setf, ma_seta, ml_seta, mf_seta, ma_setl, ml_setl, mf_setl] at g1 ⊢
    by_cases e : k = mf S 29
    · simp only [e, if_true]; omega
    · have := h.ms g0 (show k < mf S 29 by omega)
      simp only [e, if_false]; exact this
theorem SI.prop (hs : SI t S) (h1 : mf S 29 < 150) (a2 : 0 ≤ p) (a3 : p < 5) (a6 : 0 ≤ i) (a7 : i < mf S 3) (hc : ma S 25 (8 * p + i) ≠ -1) (a8 : 0 ≤ d) (a9 : d < 60) (b0 : 0 ≤ c) (b1 : c < 1440) : SI t (sProp S p i d c) := by
  have v31 : ma (sProp S p i d c) 31 (mf S 29) = 2 := by simp [sProp, sAdds, ma_setf, ml_setf, mf_setf, ma_seta, ml_seta, mf_seta, ma_setl, ml_setl, mf_setl]
  have v37 : ma (sProp S p i d c) 37 (mf S 29) = d := by simp [sProp, sAdds, ma_setf, ml_setf, mf_setf, ma_seta, ml_seta, mf_seta, ma_setl, ml_setl, mf_setl]
  have v8 : ∀ y, ma (sProp S p i d c) 8 y = ma S 8 y := fun y => by simp [sProp, sAdds, ma_setf, ml_setf, mf_setf, ma_seta, ml_seta, mf_seta, ma_setl, ml_setl, mf_setl]
  have f30 : mf (sProp S p i d c) 30 = mf S 30 := rfl
  have mq := hs.mq.1
  refine hs.app ea_prop (wr_prop hs.wr hs.fr h1 a2 a3 a6 a7 hc a8 a9 b0 b1) (fun y h => ?_) (fun y h => ?_) (fun y h _ => v8 y) (by rw [f30]; omega) (fun _ => by rw [v37]; exact a8) (fun h => ?_) (by rw [f30]; omega) (fun h => ?_) (fun h => ?_)
  · rw [v8]; exact h
  · rw [v8] at h; exact Or.inl h
  · rw [v31] at h; exact absurd h (by decide)
  · rw [v31] at h; exact absurd h (by decide)
  · rw [v31] at h; exact absurd h (by decide)
theorem SI.ask (hs : SI t S) (i0 : 0 ≤ i) (i1 : i < mf S 3) : hb (asked S i) (ma S 4 i) = false := by
  have hm := hs.wr.mt i0 i1
  have hv := hs.wr.vs hm.2.1.1 hm.2.1.2
  have step : ∀ set k : Int, 0 ≤ set → set < 32 → hb set (ma S 4 i) = false → hb (askStep S i set k) (ma S 4 i) = false := fun set k s0 s1 h => by
    unfold askStep
    split
    next g =>
      simp only [Bool.and_eq_true, decide_eq_true_eq] at g
      have hk := kept_r (i := i) (p := k) (d := -1) hs.wr
      rcases hk with z | ⟨k0, k1, kc⟩
      · exact absurd z g.1.1.2
      · have hx := hs.wr.ms k0 k1
        have kr := cK_r kc
        have no := hs.no.2.1 _ k0 k1 kr.1 g.1.2
        rw [kr.2.2.1] at no
        rw [(hb_orb s0 s1 hx.2.2.2.2.2.2.2.2.2.1.1 hx.2.2.2.2.2.2.2.2.2.1.2 hm.1.1 hm.1.2).1, h, decide_eq_false (fun z => no z.symm)]; rfl
    next => exact h
  have row : ∀ set : Int, 0 ≤ set → set < 32 → hb set (ma S 4 i) = false → ∀ n, hb (askRow S i set n) (ma S 4 i) = false := fun set s0 s1 h n => by
    induction n with
    | zero => exact h
    | succ n ih =>
      have hr := askRow_r (i := i) hs.wr s0 s1 n
      exact step _ _ hr.1 hr.2 ih
  have all : ∀ n, hb (askAll S i (ma S 17 (ma S 5 i)) n) (ma S 4 i) = false := fun n => by
    induction n with
    | zero => exact (hs.no.1 i i0 i1).1
    | succ n ih =>
      have hr := askAll_r (i := i) hs.wr hv.2.2.2.2.2.2.2.2.2.1.1 hv.2.2.2.2.2.2.2.2.2.1.2 n
      exact row _ hr.1 hr.2 ih 5
  exact all 5
theorem SI.sset (hs : SI t S) (i0 : 0 ≤ i) (i1 : i < mf S 3) : hb (sendSet S i) (ma S 4 i) = false := by
  have hm := hs.wr.mt i0 i1
  have hv := hs.wr.vs hm.2.1.1 hm.2.1.2
  have ha := asked_r hs.wr i0 i1
  have h1 := or_r ha.1 ha.2 hv.2.2.2.2.2.2.2.2.2.2.1.1 hv.2.2.2.2.2.2.2.2.2.2.1.2
  unfold sendSet
  rw [if_pos (show gM S i = true from decide_eq_true ⟨i0, i1⟩), hb_ori h1.1 h1.2 hm.2.2.1 hm.2.2.2 hm.1.1 hm.1.2, hb_ori ha.1 ha.2 hv.2.2.2.2.2.2.2.2.2.2.1.1 hv.2.2.2.2.2.2.2.2.2.2.1.2 hm.1.1 hm.1.2, hs.ask i0 i1, hs.lo i i0 i1, (hs.no.1 i i0 i1).2]; rfl
end C41
