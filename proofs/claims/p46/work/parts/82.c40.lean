section C40
variable {S S1 X Y : MS} {t u : Int} {p i q j k d w o v r f c : Int}
theorem fr_app (hf : FRV S) (e : EA S1 S) (h7 : 0 ≤ mf S 7) (h8 : ∀ y, mf S 7 ≤ y → y < 160 → ma S1 8 y = ma S 8 y) : FRV S1 := by
  obtain ⟨a1, a2, a3⟩ := hf
  have f7 : mf S1 7 = mf S 7 := e.2.2.2.1 7 (by decide) (by decide)
  have f3 : mf S1 3 = mf S 3 := e.2.2.2.1 3 (by decide) (by decide)
  have a : ∀ J, J < 31 → J ≠ 8 → ma S1 J = ma S J := e.1
  refine ⟨fun v v0 v1 => ?_, ?_, fun k k0 k1 => ?_⟩
  · rw [f7] at v0
    rw [h8 v v0 v1, e.2.2.1, a 9 (by decide) (by decide), a 17 (by decide) (by decide), a 18 (by decide) (by decide), a 19 (by decide) (by decide), a 24 (by decide) (by decide)]
    exact a1 v v0 v1
  · rw [f3, a 5 (by decide) (by decide), a 6 (by decide) (by decide), a 25 (by decide) (by decide), a 26 (by decide) (by decide)]; exact a2
  · rw [e.2.2.2.2] at k0
    have m : ∀ J, 31 ≤ J → ma S1 J k = ma S J k := fun J h => e.2.1 J k h (by omega)
    rw [m 36 (by decide), m 38 (by decide), m 39 (by decide), m 40 (by decide), m 41 (by decide), m 42 (by decide), m 43 (by decide)]
    exact a3 k (by omega) k1
theorem SI.app (hs : SI t S) (e : EA S1 S) (hW : WR t S1) (h8 : ∀ y, ma S 8 y = 1 → ma S1 8 y = 1) (h8b : ∀ y, ma S1 8 y = 1 → ma S 8 y = 1 ∨ y = ma S1 35 (mf S 29)) (h8c : ∀ y, mf S 7 ≤ y → y < 160 → ma S1 8 y = ma S 8 y)
    (m30 : mf S1 30 ≤ mf S 29 + 1) (mq : ma S1 31 (mf S 29) = 2 → 0 ≤ ma S1 37 (mf S 29)) (rp : ma S1 31 (mf S 29) = 1 → ma S1 39 (mf S 29) = mf S 30 ∧ mf S1 30 = mf S 30 + 1) (rp2 : mf S 30 ≤ mf S1 30)
    (r0 : ma S1 31 (mf S 29) = 0 → (ma S1 35 (mf S 29) = ma S 5 (ma S1 34 (mf S 29)) ∨ ma S 9 (ma S1 35 (mf S 29)) < ma S 9 (ma S 5 (ma S1 34 (mf S 29)))) ∧ ma S1 33 (mf S 29) ≠ ma S 4 (ma S1 34 (mf S 29)) ∧ 0 ≤ ma S1 35 (mf S 29) ∧ ma S1 8 (ma S1 35 (mf S 29)) = 1)
    (r1 : ma S1 31 (mf S 29) = 1 → ma S1 38 (mf S 29) = 4 → ma S1 40 (mf S 29) ≠ ma S 4 (ma S1 34 (mf S 29))) : SI t S1 := by
  have hn := hs.wr.nn
  have f7 : mf S1 7 = mf S 7 := e.2.2.2.1 7 (by decide) (by decide)
  have f3 : mf S1 3 = mf S 3 := e.2.2.2.1 3 (by decide) (by decide)
  have f29 : mf S1 29 = mf S 29 + 1 := e.2.2.2.2
  have a : ∀ J, J < 31 → J ≠ 8 → ma S1 J = ma S J := e.1
  have m : ∀ {J : Nat} {k : Int}, 31 ≤ J → k ≠ mf S 29 → ma S1 J k = ma S J k := fun x y => e.2.1 _ _ x y
  obtain ⟨n1, n2, n3, n4, n5⟩ := hs.nv
  refine ⟨hW, fr_app hs.fr e (by omega) h8c, ⟨by omega, fun k k0 k1 kk => ?_⟩, e.lo hs.lo, ⟨fun k l k0 kl l1 kk ll => ?_, fun k k0 k1 kk => ?_⟩, ⟨?_, fun k k0 k1 kk => ?_⟩, ?_, ⟨?_, fun k k0 k1 kk k8 => ?_, fun k k0 k1 kk => ?_⟩, ⟨?_, fun p j p0 p1 j0 j1 => ?_, fun k k0 k1 kk => ?_, fun v v0 v1 => ?_, fun v v0 v1 v8 => ?_⟩, fun v v0 v1 => ?_, fun v v0 v1 => ?_, ?_⟩
  · rw [f29] at k1
    by_cases x : k = mf S 29
    · rw [x] at kk ⊢; exact mq kk
    · rw [m (by decide) x] at kk ⊢; exact hs.mq.2 k k0 (by omega) kk
  · rw [f29] at l1
    have xk : k ≠ mf S 29 := by omega
    rw [m (by decide) xk] at kk ⊢
    by_cases x : l = mf S 29
    · rw [x] at ll ⊢
      rw [(rp ll).1]; exact hs.rp.2 k k0 (by omega) kk
    · rw [m (by decide) x] at ll ⊢
      exact hs.rp.1 k l k0 kl (by omega) kk ll
  · rw [f29] at k1
    by_cases x : k = mf S 29
    · rw [x] at kk ⊢
      have := rp kk; omega
    · rw [m (by decide) x] at kk ⊢
      have := hs.rp.2 k k0 (by omega) kk; omega
  · rw [f3, a 25 (by decide) (by decide), a 5 (by decide) (by decide), a 9 (by decide) (by decide)]; exact hs.sq.1
  · rw [f29] at k1
    rw [a 5 (by decide) (by decide), a 9 (by decide) (by decide)]
    by_cases x : k = mf S 29
    · rw [x] at kk ⊢; exact (r0 kk).1
    · rw [m (by decide) x] at kk
      rw [m (by decide) x, m (by decide) x]; exact hs.sq.2 k k0 (by omega) kk
  · have := hs.il; unfold IL at this ⊢; rw [f3, a 17 (by decide) (by decide), a 18 (by decide) (by decide), a 5 (by decide) (by decide)]; exact this
  · rw [f3, a 17 (by decide) (by decide), a 5 (by decide) (by decide), a 4 (by decide) (by decide), a 6 (by decide) (by decide)]; exact hs.no.1
  · rw [f29] at k1
    rw [a 4 (by decide) (by decide)]
    by_cases x : k = mf S 29
    · rw [x] at kk k8 ⊢; exact r1 kk k8
    · rw [m (by decide) x] at kk k8
      rw [m (by decide) x, m (by decide) x]; exact hs.no.2.1 k k0 (by omega) kk k8
  · rw [f29] at k1
    rw [a 4 (by decide) (by decide)]
    by_cases x : k = mf S 29
    · rw [x] at kk ⊢; exact (r0 kk).2.1
    · rw [m (by decide) x] at kk
      rw [m (by decide) x, m (by decide) x]; exact hs.no.2.2 k k0 (by omega) kk
  · rw [f3, a 5 (by decide) (by decide)]; exact n1
  · rw [f3] at j1
    rw [a 25 (by decide) (by decide)]
    rcases n2 p j p0 p1 j0 j1 with z | z
    · exact Or.inl z
    · exact Or.inr (h8 _ z)
  · rw [f29] at k1
    by_cases x : k = mf S 29
    · rw [x] at kk ⊢; exact (r0 kk).2.2
    · rw [m (by decide) x] at kk
      rw [m (by decide) x]
      have := n3 k k0 (by omega) kk
      exact ⟨this.1, h8 _ this.2⟩
  · rw [f7] at v1
    rw [f3, f29, a 5 (by decide) (by decide)]
    rcases n4 v v0 v1 with z | ⟨k, k0, k1, k2⟩
    · exact Or.inl z
    · exact Or.inr ⟨k, k0, by omega, by rw [m (by decide) (by omega)]; exact k2⟩
  · rw [f7] at v1
    rw [f29]
    rcases h8b v v8 with z | z
    · obtain ⟨k, k0, k1, k2⟩ := n5 v v0 v1 z
      exact ⟨k, k0, by omega, by rw [m (by decide) (by omega)]; exact k2⟩
    · exact ⟨mf S 29, by omega, by omega, z.symm⟩
  · rw [f7] at v1
    rw [e.2.2.1, hs.dt v v0 v1, dts_R, dts_R, e.2.2.1]
    exact datR_cg (by rw [a 11 (by decide) (by decide)]) (by rw [a 14 (by decide) (by decide)]) (by rw [a 15 (by decide) (by decide)]) (by rw [a 16 (by decide) (by decide)]) rfl rfl
  · rw [f7] at v1
    rw [e.2.2.1]; exact hs.lb v v0 v1
  · have := hs.de; unfold DE at this ⊢; rw [a 26 (by decide) (by decide)]; exact this
theorem SI.req (hs : SI t S) (hn : mf S 29 < 150) (f0 : 0 ≤ f) (f1 : f < 5) (r0 : 0 ≤ r) (r1 : r < 5) (i0 : 0 ≤ i) (i1 : i < mf S 3) (v0 : 0 ≤ v) (v1 : v < mf S 7) (hq : v = ma S 5 i ∨ ma S 9 v < ma S 9 (ma S 5 i)) (hr : r ≠ ma S 4 i) : SI t (sReq S f r i v) := by
  have v31 : ma (sReq S f r i v) 31 (mf S 29) = 0 := by simp [sReq, sAdds, ma_setf, ml_setf, mf_setf, ma_seta, ml_seta, mf_seta, ma_setl, ml_setl, mf_setl]
  have v33 : ma (sReq S f r i v) 33 (mf S 29) = r := by simp [sReq, sAdds, ma_setf, ml_setf, mf_setf, ma_seta, ml_seta, mf_seta, ma_setl, ml_setl, mf_setl]
  have v34 : ma (sReq S f r i v) 34 (mf S 29) = i := by simp [sReq, sAdds, ma_setf, ml_setf, mf_setf, ma_seta, ml_seta, mf_seta, ma_setl, ml_setl, mf_setl]
  have v35 : ma (sReq S f r i v) 35 (mf S 29) = v := by simp [sReq, sAdds, ma_setf, ml_setf, mf_setf, ma_seta, ml_seta, mf_seta, ma_setl, ml_setl, mf_setl]
  have v8 : ∀ y, ma (sReq S f r i v) 8 y = if y = v then 1 else ma S 8 y := fun y => by simp [sReq, sAdds, ma_setf, ml_setf, mf_setf, ma_seta, ml_seta, mf_seta, ma_setl, ml_setl, mf_setl]
  have v30 : mf (sReq S f r i v) 30 = mf S 30 := rfl
  refine hs.app ea_req (wr_req hs.wr hs.fr hn f0 f1 r0 r1 i0 i1 v0 v1) (fun y h => ?_) (fun y h => ?_) (fun y h _ => ?_) (by rw [v30]; have := hs.mq.1; omega) (fun h => ?_) (fun h => ?_) (by rw [v30]; omega) (fun _ => ?_) (fun h => ?_)
  · rw [v8]; split
    · rfl
    · exact h
  · rw [v8] at h
    rw [v35]
    by_cases x : y = v
    · exact Or.inr x
    · rw [if_neg x] at h; exact Or.inl h
  · rw [v8, if_neg (by omega)]
  · rw [v31] at h; exact absurd h (by decide)
  · rw [v31] at h; exact absurd h (by decide)
  · rw [v33, v34, v35]
    exact ⟨hq, hr, v0, by rw [v8, if_pos rfl]⟩
  · rw [v31] at h; exact absurd h (by decide)
theorem SI.rep1 (hs : SI t S) (hn : mf S 29 < 150) (p0 : 0 ≤ p) (p1 : p < 5) (i0 : 0 ≤ i) (i1 : i < mf S 3) (hc : ma S 25 (8 * p + i) ≠ -1) (d0 : -1 ≤ d) (d1 : d < 60) (w0 : 0 ≤ w) (w1 : w ≤ 4) (o0 : 0 ≤ o) (o1 : o < 5) (ho : w = 4 → o ≠ ma S 4 i) (X : MS) (hX : X = sRep1 S p i d w) : SI t (seta X 40 (mf S 29) o) := by
  have hW := wr_rep1 (p := p) (i := i) (d := d) (w := w) hs.wr hs.fr hs.mq.1 hn p0 p1 i0 i1 hc d0 d1 w0 w1
  have u31 : ma (sRep1 S p i d w) 31 (mf S 29) = 1 := by simp [sRep1, sAdds, ma_setf, ml_setf, mf_setf, ma_seta, ml_seta, mf_seta, ma_setl, ml_setl, mf_setl]
  have u34 : ma (sRep1 S p i d w) 34 (mf S 29) = i := by simp [sRep1, sAdds, ma_setf, ml_setf, mf_setf, ma_seta, ml_seta, mf_seta, ma_setl, ml_setl, mf_setl]
  have u38 : ma (sRep1 S p i d w) 38 (mf S 29) = w := by simp [sRep1, sAdds, ma_setf, ml_setf, mf_setf, ma_seta, ml_seta, mf_seta, ma_setl, ml_setl, mf_setl]
  have u39 : ma (sRep1 S p i d w) 39 (mf S 29) = mf S 30 := by simp [sRep1, sAdds, ma_setf, ml_setf, mf_setf, ma_seta, ml_seta, mf_seta, ma_setl, ml_setl, mf_setl]
  have u8 : ∀ y, ma (sRep1 S p i d w) 8 y = ma S 8 y := fun y => by simp [sRep1, sAdds, ma_setf, ml_setf, mf_setf, ma_seta, ml_seta, mf_seta, ma_setl, ml_setl, mf_setl]
  have f30 : mf (sRep1 S p i d w) 30 = mf S 30 + 1 := rfl
  have ea := (ea_rep (S := S) (p := p) (i := i) (d := d) (w := w))
  rw [← hX] at hW u31 u34 u38 u39 u8 f30 ea
  have n40 : ∀ {J : Nat} (y : Int), J ≠ 40 → ma (seta X 40 (mf S 29) o) J y = ma X J y := fun y z => congrFun (seta_ne z) y
  have o40 : ma (seta X 40 (mf S 29) o) 40 (mf S 29) = o := if_pos ⟨rfl, rfl⟩
  have f30' : mf (seta X 40 (mf S 29) o) 30 = mf S 30 + 1 := f30
  have mq := hs.mq.1
  refine hs.app ea.oo (wr_other hW o0 o1) (fun y h => ?_) (fun y h => ?_) (fun y h _ => ?_) (by rw [f30']; omega) (fun h => ?_) (fun h => ?_) (by rw [f30']; omega) (fun h => ?_) (fun h h2 => ?_)
  · rw [n40 _ (by decide), u8]; exact h
  · rw [n40 _ (by decide), u8] at h; exact Or.inl h
  · rw [n40 _ (by decide), u8]
  · rw [n40 _ (by decide), u31] at h; exact absurd h (by decide)
  · rw [n40 _ (by decide), u39]; exact ⟨rfl, f30'⟩
  · rw [n40 _ (by decide), u31] at h; exact absurd h (by decide)
  · rw [n40 _ (by decide), u38] at h2
    rw [o40, n40 _ (by decide), u34]; exact ho h2
end C40
