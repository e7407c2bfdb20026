section C37
variable {S S' X Y : MS} {t u : Int} {p i q j : Int}
theorem marked_27 : ma (marked1 X p i) 27 q = if q = p then ma X 27 p + 1 else ma X 27 q := by
  show (if 27 = 26 ∧ q = 8 * p + i then ma X 27 p + 1 else (if 27 = 27 ∧ q = p then ma X 27 p + 1 else ma X 27 q)) = _
  rw [if_neg (fun z => absurd z.1 (by decide))]
  by_cases e : q = p
  · rw [if_pos ⟨rfl, e⟩, if_pos e]
  · rw [if_neg (fun z => e z.2), if_neg e]
theorem marked_26 : ma (marked1 X p i) 26 q = if q = 8 * p + i then ma X 27 p + 1 else ma X 26 q := by
  show (if 26 = 26 ∧ q = 8 * p + i then ma X 27 p + 1 else (if 26 = 27 ∧ q = p then ma X 27 p + 1 else ma X 26 q)) = _
  by_cases e : q = 8 * p + i
  · rw [if_pos ⟨rfl, e⟩, if_pos e]
  · rw [if_neg (fun z => e z.2), if_neg e, if_neg (fun z => absurd z.1 (by decide))]
theorem marks_27 : ma (sMarks X p i) 27 q = if q = p then ma X 27 p + 1 else ma X 27 q := by
  unfold sMarks
  split
  · rw [seta_ne (show 27 ≠ 26 by decide), seta_ne (show 27 ≠ 28 by decide), marked_27]
  · exact marked_27
theorem marks_26 : ma (sMarks X p i) 26 q = (if q = 8 * p + i then ma X 27 p + 1 else ma X 26 q) ∨ (ma (sMarks X p i) 26 q = 0 ∧ ∃ g : Int, 0 ≤ g ∧ g < (mf X 3).toNat ∧ q = 8 * p + g) := by
  unfold sMarks
  split
  next c =>
    have hg := goneTo_r (marked1 X p i) p (mf X 3).toNat
    generalize goneTo (marked1 X p i) p (mf X 3).toNat = g at c hg ⊢
    by_cases e : q = 8 * p + g.2
    · refine Or.inr ⟨?_, g.2, by omega, by omega, e⟩
      show (if 26 = 26 ∧ q = 8 * p + g.2 then 0 else ma (seta (marked1 X p i) 28 p (ma (marked1 X p i) 26 (8 * p + g.2))) 26 q) = 0
      rw [if_pos ⟨rfl, e⟩]
    · refine Or.inl ?_
      show (if 26 = 26 ∧ q = 8 * p + g.2 then 0 else ma (seta (marked1 X p i) 28 p (ma (marked1 X p i) 26 (8 * p + g.2))) 26 q) = _
      rw [if_neg (fun z => e z.2), seta_ne (show 26 ≠ 28 by decide), marked_26]
  next => exact Or.inl marked_26
theorem wr_tight (h : WR u X) (h2 : WR (u + 1) Y) (e : EP Y X) (hb : ∀ p, 0 ≤ p → p < 5 → ma Y 27 p ≤ 2 * u) : WR u Y := by
  have a : ∀ J, J ≠ 26 → J ≠ 27 → J ≠ 28 → ma Y J = ma X J := e.1
  have f : ∀ J, J ≠ 45 → mf Y J = mf X J := e.2.2
  have f3 := f 3 (by decide)
  have f7 := f 7 (by decide)
  have f29 := f 29 (by decide)
  have f30 := f 30 (by decide)
  refine ⟨by rw [f3, f7, f29, f30]; exact h.nn, ?_, ?_, ?_, ?_, fun p j p0 p1 j0 j1 => ?_, fun p p0 p1 => ?_, ?_⟩
  · rw [a 0 (by decide) (by decide) (by decide), a 1 (by decide) (by decide) (by decide), a 2 (by decide) (by decide) (by decide)]; exact h.2.1
  · rw [f3, f7, a 4 (by decide) (by decide) (by decide), a 5 (by decide) (by decide) (by decide), a 6 (by decide) (by decide) (by decide)]; exact h.2.2.1
  · rw [f7, a 8 (by decide) (by decide) (by decide), a 9 (by decide) (by decide) (by decide), a 10 (by decide) (by decide) (by decide), a 11 (by decide) (by decide) (by decide), a 12 (by decide) (by decide) (by decide), a 13 (by decide) (by decide) (by decide), a 14 (by decide) (by decide) (by decide), a 15 (by decide) (by decide) (by decide), a 16 (by decide) (by decide) (by decide), a 17 (by decide) (by decide) (by decide), a 18 (by decide) (by decide) (by decide), a 19 (by decide) (by decide) (by decide)]; exact h.2.2.2.1
  · rw [f7, a 24 (by decide) (by decide) (by decide)]; exact h.2.2.2.2.1
  · have := h.cp p0 p1 j0 j1
    have h3 := h2.cp p0 p1 j0 j1
    rw [f7, a 25 (by decide) (by decide) (by decide)]
    exact ⟨this.1, h3.2⟩
  · have h3 := h2.ps p0 p1
    have := hb p p0 p1
    exact ⟨⟨h3.1.1, this⟩, h3.2⟩
  · rw [f29, f3, f7, a 31 (by decide) (by decide) (by decide), a 32 (by decide) (by decide) (by decide), a 33 (by decide) (by decide) (by decide), a 34 (by decide) (by decide) (by decide), a 35 (by decide) (by decide) (by decide), a 36 (by decide) (by decide) (by decide), a 37 (by decide) (by decide) (by decide), a 38 (by decide) (by decide) (by decide), a 39 (by decide) (by decide) (by decide), a 40 (by decide) (by decide) (by decide), a 41 (by decide) (by decide) (by decide), a 42 (by decide) (by decide) (by decide), a 43 (by decide) (by decide) (by decide)]; exact h.2.2.2.2.2.2.2
theorem fr_marks (h : FRV X) (h3 : 0 ≤ mf X 3) (hi : 0 ≤ i) (hi' : i < mf X 3) (hp : 0 ≤ p) (hp' : p < 5) (h8 : mf X 3 ≤ 8) : FRV (sMarks X p i) := by
  have e := EP.marks X p i
  have a : ∀ J, J ≠ 26 → J ≠ 27 → J ≠ 28 → ma (sMarks X p i) J = ma X J := e.1
  have f : ∀ J, J ≠ 45 → mf (sMarks X p i) J = mf X J := e.2.2
  obtain ⟨h1, h2, hk⟩ := h
  refine ⟨?_, fun j j0 j1 => ?_, ?_⟩
  · rw [f 7 (by decide), e.2.1, a 8 (by decide) (by decide) (by decide), a 9 (by decide) (by decide) (by decide), a 17 (by decide) (by decide) (by decide), a 18 (by decide) (by decide) (by decide), a 19 (by decide) (by decide) (by decide), a 24 (by decide) (by decide) (by decide)]; exact h1
  · rw [f 3 (by decide)] at j0
    have := h2 j j0 j1
    rw [a 5 (by decide) (by decide) (by decide), a 6 (by decide) (by decide) (by decide), a 25 (by decide) (by decide) (by decide)]
    refine ⟨this.1, fun q q0 q1 => ⟨(this.2 q q0 q1).1, ?_⟩⟩
    have z := (this.2 q q0 q1).2
    rcases marks_26 (X := X) (p := p) (i := i) (q := 8 * q + j) with w | w
    · rw [w, if_neg (by omega)]; exact z
    · exact w.1
  · rw [f 29 (by decide), a 36 (by decide) (by decide) (by decide), a 38 (by decide) (by decide) (by decide), a 39 (by decide) (by decide) (by decide), a 40 (by decide) (by decide) (by decide), a 41 (by decide) (by decide) (by decide), a 42 (by decide) (by decide) (by decide), a 43 (by decide) (by decide) (by decide)]; exact hk
theorem de_marks (h : DE X) (hw : WR u X) (hp : 0 ≤ p) (hp' : p < 5) (hi : 0 ≤ i) (hi' : i < 8) : DE (sMarks X p i) := fun q a b q0 q1 a0 a1 b0 b1 ne eq => by
  have ca := hw.cp q0 q1 a0 a1
  have cb := hw.cp q0 q1 b0 b1
  have hps := hw.ps hp hp'
  rcases marks_26 (X := X) (p := p) (i := i) (q := 8 * q + a) with w | w
  · rcases marks_26 (X := X) (p := p) (i := i) (q := 8 * q + b) with v | v
    · rw [w, v] at eq
      rw [w]
      by_cases e1 : 8 * q + a = 8 * p + i
      · have ep : q = p := by omega
        subst ep
        rw [if_pos e1, if_neg (by omega)] at eq
        omega
      · rw [if_neg e1] at eq ⊢
        by_cases e2 : 8 * q + b = 8 * p + i
        · have ep : q = p := by omega
          subst ep
          rw [if_pos e2] at eq
          omega
        · rw [if_neg e2] at eq
          exact h q a b q0 q1 a0 a1 b0 b1 ne eq
    · rw [eq]; exact v.1
  · exact w.1
theorem SI.marks (h : SI u X) (hu : u + 1 ≤ 600) (hb : ∀ p, 0 ≤ p → p < 5 → ma X 27 p ≤ 2 * u - 1) (hp : 0 ≤ p) (hp' : p < 5) (hi : 0 ≤ i) (hi' : i < mf X 3) : SI u (sMarks X p i) := by
  have hn := h.wr.nn
  have e := EP.marks X p i
  have a : ∀ J, J ≠ 26 → J ≠ 27 → J ≠ 28 → ma (sMarks X p i) J = ma X J := e.1
  have f : ∀ J, J ≠ 45 → mf (sMarks X p i) J = mf X J := e.2.2
  have el := e.2.1
  have hw := wr_tight h.wr (wr_marks h.wr hu hp hp' hi hi') e (fun q q0 q1 => by
    rw [marks_27]
    have h1 := hb q q0 q1
    have h2 := hb p hp hp'
    split <;> omega)
  have hfr := fr_marks h.fr (by omega) hi hi' hp hp' (by omega)
  have hde := de_marks h.de h.wr hp hp' hi (show i < 8 by omega)
  refine ⟨hw, hfr, ?_, ?_, ?_, ?_, ?_, ?_, ?_, ?_, ?_, hde⟩
  · have := h.mq; unfold MQS at this ⊢; rw [f 29 (by decide), f 30 (by decide), a 31 (by decide) (by decide) (by decide), a 37 (by decide) (by decide) (by decide)]; exact this
  · exact LO_ep e h.lo
  · have := h.rp; unfold RP at this ⊢; rw [f 29 (by decide), f 30 (by decide), a 31 (by decide) (by decide) (by decide), a 39 (by decide) (by decide) (by decide)]; exact this
  · have := h.sq; unfold SQ at this ⊢; rw [f 3 (by decide), f 29 (by decide), a 25 (by decide) (by decide) (by decide), a 5 (by decide) (by decide) (by decide), a 9 (by decide) (by decide) (by decide), a 31 (by decide) (by decide) (by decide), a 34 (by decide) (by decide) (by decide), a 35 (by decide) (by decide) (by decide)]; exact this
  · have := h.il; unfold IL at this ⊢; rw [f 3 (by decide), a 17 (by decide) (by decide) (by decide), a 18 (by decide) (by decide) (by decide), a 5 (by decide) (by decide) (by decide)]; exact this
  · have := h.no; unfold NO at this ⊢; rw [f 3 (by decide), f 29 (by decide), a 17 (by decide) (by decide) (by decide), a 5 (by decide) (by decide) (by decide), a 4 (by decide) (by decide) (by decide), a 6 (by decide) (by decide) (by decide), a 31 (by decide) (by decide) (by decide), a 38 (by decide) (by decide) (by decide), a 40 (by decide) (by decide) (by decide), a 34 (by decide) (by decide) (by decide), a 33 (by decide) (by decide) (by decide)]; exact this
  · have := h.nv; unfold NV at this ⊢; rw [f 3 (by decide), f 7 (by decide), f 29 (by decide), a 5 (by decide) (by decide) (by decide), a 25 (by decide) (by decide) (by decide), a 8 (by decide) (by decide) (by decide), a 31 (by decide) (by decide) (by decide), a 35 (by decide) (by decide) (by decide)]; exact this
  · intro v x y
    rw [f 7 (by decide)] at y
    rw [el, h.dt v x y, dts_R, dts_R, el]
    exact datR_cg (by rw [a 11 (by decide) (by decide) (by decide)]) (by rw [a 14 (by decide) (by decide) (by decide)]) (by rw [a 15 (by decide) (by decide) (by decide)]) (by rw [a 16 (by decide) (by decide) (by decide)]) rfl rfl
  · have := h.lb; unfold LBS at this ⊢; rw [el, f 7 (by decide)]; exact this
end C37
