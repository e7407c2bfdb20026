section C38
variable {S S' X Y : MS} {t u : Int} {p i q j : Int} {ri : Nat → Int} {rl : Nat → Int64} {rd : Int → Int}
theorem sh_f7 : mf (SH0 S i ri rl rd) 7 = if ma S 8 (ma S 5 i) = 0 then mf S 7 else mf S 7 + 1 := rfl
theorem SI.sh0 (hs : SI t S) (ht : t + 2 ≤ 600) (hi : 0 ≤ i) (hi' : i < mf S 3) (hr : OKR (t + 1) ri rd) (h9 : ri 9 = ma S 9 (ma S 5 i) + 1) (hil : ∀ p, 0 ≤ p → p < 5 → hb (ri 17) p = true → hb (ri 18) p = false) (hno : hb (ri 17) (ma S 4 i) = false) (ho : hb (ri 18) (ma S 4 i) = false) (h20 : LB (rl 20)) : SI (t + 1) (SH0 S i ri rl rd) := by
  have hn := hs.wr.nn
  have hm := hs.wr.mt hi hi'
  have hto := toOf_r hs.wr hi hi'
  have hnv := hs.to hi hi'
  have ne := to_ne hs hi hi'
  have ow := sh_own (S := S) (i := i) (ri := ri) (rl := rl) (rd := rd)
  obtain ⟨n1, n2, n3, n4, n5⟩ := hs.nv
  have a : ∀ {J : Nat} (y : Int), J ≠ 5 ∧ (J < 9 ∨ (19 < J ∧ J ≠ 24)) → ma (SH0 S i ri rl rd) J y = ma S J y := fun y h => sh_a y h
  have a' : ∀ {J : Nat}, J ≠ 5 ∧ (J < 9 ∨ (19 < J ∧ J ≠ 24)) → ma (SH0 S i ri rl rd) J = ma S J := fun h => funext fun y => sh_a y h
  have f3 : mf (SH0 S i ri rl rd) 3 = mf S 3 := sh_f (by decide)
  have f29 : mf (SH0 S i ri rl rd) 29 = mf S 29 := sh_f (by decide)
  have f30 : mf (SH0 S i ri rl rd) 30 = mf S 30 := sh_f (by decide)
  have f7 : (ma S 8 (ma S 5 i) = 0 ∧ mf (SH0 S i ri rl rd) 7 = mf S 7) ∨ (ma S 8 (ma S 5 i) ≠ 0 ∧ mf (SH0 S i ri rl rd) 7 = mf S 7 + 1) := by
    rw [sh_f7]
    by_cases c : ma S 8 (ma S 5 i) = 0
    · rw [if_pos c]; exact Or.inl ⟨c, rfl⟩
    · rw [if_neg c]; exact Or.inr ⟨c, rfl⟩
  refine ⟨wr_SH0 hs ht hi hi' hnv hr, ⟨fun v v0 v1 => ?_, ?_, ?_⟩, ?_, ?_, ?_, ⟨fun p j p0 p1 j0 j1 => ?_, fun k k0 k1 kk => ?_⟩, fun j p j0 j1 p0 p1 g => ?_, ⟨fun j j0 j1 => ?_, ?_, ?_⟩, ⟨fun j k j0 j1 k0 k1 e => ?_, fun p j p0 p1 j0 j1 => ?_, fun k k0 k1 kk => ?_, fun v v0 v1 => ?_, fun v v0 v1 v8 => ?_⟩, fun v v0 v1 => ?_, fun v v0 v1 => ?_, ?_⟩
  · -- fresh versions
    have hv := hs.fr.1 v (by omega) v1
    have nv : v ≠ toOf S i := by
      rcases f7 with c | c
      · have := hto.2.2.1 c.1; omega
      · have := hto.2.2.2 c.1; omega
    have s := sh_sv (ri := ri) (rl := rl) (rd := rd) nv
    rw [a v (by decide), s.1 9 (by decide) (by decide), s.1 17 (by decide) (by decide), s.1 18 (by decide) (by decide), s.1 19 (by decide) (by decide), s.2.1 20 (by decide) (by decide), s.2.1 21 (by decide) (by decide), s.2.1 22 (by decide) (by decide)]
    exact ⟨hv.1, hv.2.1, fun d d0 d1 => (s.2.2 d d0 d1).trans (hv.2.2 d d0 d1)⟩
  · intro j j0 j1
    rw [f3] at j0
    have := hs.fr.2.1 j j0 j1
    rw [sh_5, if_neg (by omega), a j (by decide), a' (J := 25) (by decide), a' (J := 26) (by decide)]; exact this
  · rw [f29, a' (J := 36) (by decide), a' (J := 38) (by decide), a' (J := 39) (by decide), a' (J := 40) (by decide), a' (J := 41) (by decide), a' (J := 42) (by decide), a' (J := 43) (by decide)]; exact hs.fr.2.2
  · have := hs.mq; unfold MQS at this ⊢; rw [f29, f30, a' (J := 31) (by decide), a' (J := 37) (by decide)]; exact this
  · intro j x y
    rw [f3] at y
    rw [sh_5, a j (by decide)]
    by_cases e : j = i
    · subst e
      rw [if_pos rfl, ow.1 18 (by decide) (by decide)]; exact ho
    · rw [if_neg e, (sh_sv (ne.1 j x y e)).1 18 (by decide) (by decide)]; exact hs.lo j x y
  · have := hs.rp; unfold RP at this ⊢; rw [f29, f30, a' (J := 31) (by decide), a' (J := 39) (by decide)]; exact this
  · rw [f3] at j1
    rw [a _ (by decide), sh_5]
    rcases hs.sq.1 p j p0 p1 j0 j1 with z | z
    · exact Or.inl z
    · have c25 : ma S 25 (8 * p + j) ≠ -1 ∨ ma S 25 (8 * p + j) = -1 := by omega
      rcases c25 with c25 | c25
      · have s := sh_sv (S := S) (i := i) (ri := ri) (rl := rl) (rd := rd) (ne.2.1 p j p0 p1 j0 j1 c25)
        rw [s.1 9 (by decide) (by decide)]
        by_cases e : j = i
        · subst e
          rw [if_pos rfl, ow.1 9 (by decide) (by decide), h9]
          refine Or.inr (Or.inr ?_)
          rcases z with z | z
          · rw [z]; omega
          · omega
        · rw [if_neg e, (sh_sv (ne.1 j j0 j1 e)).1 9 (by decide) (by decide)]
          exact Or.inr z
      · exact Or.inl c25
  · rw [f29] at k1
    rw [a _ (by decide)] at kk
    have hk := hs.wr.ms k0 k1
    rw [a k (by decide), a k (by decide), sh_5, (sh_sv (ne.2.2 k k0 k1 kk)).1 9 (by decide) (by decide)]
    by_cases e : ma S 34 k = i
    · rw [if_pos e, ow.1 9 (by decide) (by decide), h9]
      refine Or.inr ?_
      have := hs.sq.2 k k0 k1 kk
      rw [e] at this
      rcases this with z | z
      · rw [z]; omega
      · omega
    · rw [if_neg e, (sh_sv (ne.1 _ hk.2.2.2.1.1 hk.2.2.2.1.2 e)).1 9 (by decide) (by decide)]
      exact hs.sq.2 k k0 k1 kk
  · rw [f3] at j1
    rw [sh_5] at g ⊢
    by_cases e : j = i
    · subst e
      rw [if_pos rfl, ow.1 17 (by decide) (by decide)] at g
      rw [if_pos rfl, ow.1 18 (by decide) (by decide)]
      exact hil p p0 p1 g
    · rw [if_neg e, (sh_sv (ne.1 j j0 j1 e)).1 17 (by decide) (by decide)] at g
      rw [if_neg e, (sh_sv (ne.1 j j0 j1 e)).1 18 (by decide) (by decide)]
      exact hs.il j p j0 j1 p0 p1 g
  · rw [f3] at j1
    rw [sh_5, a j (by decide), a j (by decide)]
    have := hs.no.1 j j0 j1
    by_cases e : j = i
    · subst e
      rw [if_pos rfl, ow.1 17 (by decide) (by decide)]
      exact ⟨hno, this.2⟩
    · rw [if_neg e, (sh_sv (ne.1 j j0 j1 e)).1 17 (by decide) (by decide)]
      exact this
  · have := hs.no.2.1; rw [f29, a' (J := 31) (by decide), a' (J := 38) (by decide), a' (J := 40) (by decide), a' (J := 4) (by decide), a' (J := 34) (by decide)]; exact this
  · have := hs.no.2.2; rw [f29, a' (J := 31) (by decide), a' (J := 33) (by decide), a' (J := 4) (by decide), a' (J := 34) (by decide)]; exact this
  · rw [f3] at j1 k1
    rw [sh_5, sh_5]
    by_cases e1 : j = i
    · rw [if_pos e1, if_neg (fun z => e (e1.trans z.symm))]
      exact fun z => ne.1 k k0 k1 (fun w => e (e1.trans w.symm)) z.symm
    · rw [if_neg e1]
      by_cases e2 : k = i
      · rw [if_pos e2]; exact ne.1 j j0 j1 e1
      · rw [if_neg e2]; exact n1 j k j0 j1 k0 k1 e
  · rw [f3] at j1
    rw [a _ (by decide), a _ (by decide)]; exact n2 p j p0 p1 j0 j1
  · rw [f29] at k1
    rw [a _ (by decide)] at kk
    rw [a _ (by decide), a _ (by decide)]; exact n3 k k0 k1 kk
  · rw [f3, f29, a' (J := 35) (by decide)]
    by_cases e : v = toOf S i
    · exact Or.inl ⟨i, hi, hi', by rw [sh_5, if_pos rfl]; exact e.symm⟩
    · have v2 : v < mf S 7 := by
        rcases f7 with c | c
        · omega
        · have := hto.2.2.2 c.1; omega
      rcases n4 v v0 v2 with ⟨j, j0, j1, j2⟩ | w
      · by_cases e2 : j = i
        · subst e2
          refine Or.inr (n5 v v0 v2 ?_)
          have hv := hs.wr.vs v0 v2
          rcases f7 with c | c
          · have := hto.2.2.1 c.1; omega
          · rw [j2] at c; omega
        · exact Or.inl ⟨j, j0, j1, by rw [sh_5, if_neg e2]; exact j2⟩
      · exact Or.inr w
  · rw [a _ (by decide)] at v8
    rw [f29, a' (J := 35) (by decide)]
    have v2 : v < mf S 7 := by
      rcases f7 with c | c
      · omega
      · by_cases e : v = mf S 7
        · have := (hs.fr.1 v (by omega) (by omega)).1.1; omega
        · omega
    exact n5 v v0 v2 v8
  · rw [dts_R]
    by_cases e : v = toOf S i
    · rw [e, ow.2.2.1]
      exact (datR_cg (ow.1 11 (by decide) (by decide)) (ow.1 14 (by decide) (by decide)) (ow.1 15 (by decide) (by decide)) (ow.1 16 (by decide) (by decide)) (ow.2.1 20 (by decide) (by decide)) (ow.2.1 21 (by decide) (by decide))).symm
    · have v2 : v < mf S 7 := by
        rcases f7 with c | c
        · omega
        · have := hto.2.2.2 c.1; omega
      have s := sh_sv (ri := ri) (rl := rl) (rd := rd) e
      rw [s.2.1 23 (by decide) (by decide), hs.dt v v0 v2, dts_R]
      exact (datR_cg (s.1 11 (by decide) (by decide)) (s.1 14 (by decide) (by decide)) (s.1 15 (by decide) (by decide)) (s.1 16 (by decide) (by decide)) (s.2.1 20 (by decide) (by decide)) (s.2.1 21 (by decide) (by decide))).symm
  · by_cases e : v = toOf S i
    · rw [e, ow.2.1 20 (by decide) (by decide)]; exact h20
    · have v2 : v < mf S 7 := by
        rcases f7 with c | c
        · omega
        · have := hto.2.2.2 c.1; omega
      rw [(sh_sv (ri := ri) (rl := rl) (rd := rd) e).2.1 20 (by decide) (by decide)]
      exact hs.lb v v0 v2
  · have := hs.de; unfold DE at this ⊢; rw [a' (J := 26) (by decide)]; exact this
theorem SI.hold (hs : SI t S) (ht : t + 2 ≤ 600) (hi : 0 ≤ i) (hi' : i < mf S 3) (hr : OKR (t + 1) ri rd) (h9 : ri 9 = ma S 9 (ma S 5 i) + 1) (hil : ∀ p, 0 ≤ p → p < 5 → hb (ri 17) p = true → hb (ri 18) p = false) (hno : hb (ri 17) (ma S 4 i) = false) (ho : hb (ri 18) (ma S 4 i) = false) (h20 : LB (rl 20)) : SI (t + 1) (sHold (XV S i ri rl rd) i (toOf S i)) := by
  have hm := hs.wr.mt hi hi'
  rw [hold_SH0]
  refine (hs.sh0 ht hi hi' hr h9 hil hno ho h20).marks (by omega) (fun p p0 p1 => ?_) hm.1.1 hm.1.2 hi (by rw [sh_f (by decide)]; exact hi')
  rw [sh_a _ (by decide)]
  have := hs.wr.ps p0 p1
  omega
end C38
