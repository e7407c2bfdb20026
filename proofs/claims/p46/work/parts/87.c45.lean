def S00 : MS := (fun J y => if (J = 1 ∧ 0 ≤ y ∧ y < 3) ∨ (J = 25 ∧ 0 ≤ y ∧ y < 40) then -1 else 0, fun _ _ => 0, fun _ => 0)
theorem s0_a {J : Nat} {y : Int} (h1 : J ≠ 1) (h2 : J ≠ 25) : ma S00 J y = 0 := if_neg (by omega)
theorem s0_1 {y : Int} (h0 : 0 ≤ y) (h1 : y < 3) : ma S00 1 y = -1 := if_pos (by omega)
theorem s0_25 {y : Int} (h0 : 0 ≤ y) (h1 : y < 40) : ma S00 25 y = -1 := if_pos (by omega)
theorem s0_f (J : Nat) : mf S00 J = 0 := id rfl
theorem SI.start : SI 0 S00 := by
  have v : ∀ {P : Prop} {x : Int} {J : Nat}, 0 ≤ x → x < mf S00 J → P := fun a b => by rw [s0_f] at b; omega
  refine ⟨⟨by simp only [s0_f]; omega, fun z a b => ?_, fun i a b => v a b, fun u a b => v a b, fun u a b => v a b, fun p i a b c d => ?_, fun p a b => ?_, fun k a b => v a b⟩, ⟨fun u a b => ?_, fun i a b => ?_, fun k a b => ?_⟩, ⟨by simp only [s0_f]; omega, fun k a b => v a b⟩, fun i a b => v a b, ⟨fun k l a b c => v (x := l) (by omega) c, fun k a b => v a b⟩, ⟨fun p i a b c d => v c d, fun k a b => v a b⟩, fun i p a b => v a b, ⟨fun i a b => v a b, fun k a b => v a b, fun k a b => v a b⟩, ⟨fun i j a b => v a b, fun p i a b c d => v c d, fun k a b => v a b, fun u a b => v a b, fun u a b => v a b⟩, fun u a b => v a b, fun u a b => v a b, fun p i j _ _ _ _ _ _ _ _ => s0_a (by decide) (by decide)⟩
  · rw [s0_a (by decide) (by decide), s0_1 a b]; omega
  · rw [s0_25 (by omega) (by omega), s0_a (by decide) (by decide), s0_a (by decide) (by decide)]; omega
  · rw [s0_a (by decide) (by decide), s0_a (by decide) (by decide)]; omega
  · refine ⟨⟨s0_a (by decide) (by decide), s0_a (by decide) (by decide), s0_a (by decide) (by decide), s0_a (by decide) (by decide), s0_a (by decide) (by decide)⟩, ⟨rfl, rfl, rfl⟩, fun d _ _ => s0_a (by decide) (by decide)⟩
  · rw [s0_f] at a
    exact ⟨⟨s0_a (by decide) (by decide), s0_a (by decide) (by decide)⟩, fun p c d => ⟨s0_25 (by omega) (by omega), s0_a (by decide) (by decide)⟩⟩
  · exact ⟨s0_a (by decide) (by decide), s0_a (by decide) (by decide), s0_a (by decide) (by decide), s0_a (by decide) (by decide), s0_a (by decide) (by decide), s0_a (by decide) (by decide), s0_a (by decide) (by decide)⟩
section C45
variable {sv : Nat} {G : GM} {m M A W : QM}
theorem CR.start (h : qtop m = sv + 1) (ht : qty m sv = (1, 7, 0)) (z4 : qfi m 452 sv = 0) (z5 : qfi m 453 sv = 0) (z6 : qfi m 454 sv = 0) (pA : PZ sv (Q6 m sv) 3 A) (pM : PP sv A 5 M) (g : GROW M W) (top : sv + 23 ≤ qtop W) : CR sv G S00 W := by
  obtain ⟨a1, a2, a3⟩ := pA
  obtain ⟨m1, m2, m3⟩ := pM
  have cty : ∀ b, b < sv + 7 → qty W b = qty (Q6 m sv) b := fun b x => (g.ty b (by omega)).trans ((m2 b (by omega)).1.trans (a2 b x).1)
  have cfr : ∀ f b, b < sv + 7 → qfr W f b = qfr (Q6 m sv) f b := fun f b x => (g.fr f b (by omega)).trans (((m2 b (by omega)).2.2.2.1 f).trans ((a2 b x).2.2.2.1 f))
  have cfi : ∀ f b, b < sv + 7 → qfi W f b = qfi (Q6 m sv) f b := fun f b x => (g.fi f b (by omega)).trans (((m2 b (by omega)).2.1 f).trans ((a2 b x).2.1 f))
  have hi : ∀ f, qfi (Q6 m sv) f sv = qfi m f sv := fun f => rfl
  have q : ∀ k, k ≤ 6 → qty W (sv + k) = qty (Q6 m sv) (sv + k) := fun k x => cty _ (by omega)
  have zq : ∀ z : Int, 0 ≤ z → z < 3 → zA sv z = sv + 7 + z.toNat := fun z _ _ => rfl
  have pq : ∀ p : Int, 0 ≤ p → p < 5 → pA sv p = sv + 10 + 2 * p.toNat := fun p _ _ => rfl
  refine ⟨⟨?_, (cfr _ _ (by omega)).trans (by rw [q6_f]; rfl), (cfr _ _ (by omega)).trans (by rw [q6_f]; rfl), (cfr _ _ (by omega)).trans (by rw [q6_f]; rfl), (cfr _ _ (by omega)).trans (by rw [q6_f]; rfl), (cfr _ _ (by omega)).trans (by rw [q6_f]; rfl), (cfr _ _ (by omega)).trans (by rw [q6_f]; rfl), ?_, ?_, ?_, ?_, ?_, ?_, fun z x y => ?_, fun z x y => ?_, fun p x y => ?_, fun p x y => ?_, fun p x y => ?_, fun p x y => ?_, top⟩,
    (cfi _ _ (by omega)).trans z4, (cfi _ _ (by omega)).trans z5, (cfi _ _ (by omega)).trans z6, fun z x y => ?_, fun z x y => ?_, fun z x y w => absurd (s0_1 x y) w, fun p x y => ?_, fun p x y => ?_, fun p i x y u w => ?_, fun i x y => by rw [s0_f] at y; omega, fun i j x y z => by rw [s0_f] at z; omega, fun k x y => by rw [s0_f] at y; omega, fun k l x y z => by rw [s0_f] at z; omega⟩
  · rw [cty _ (by omega), q6_t h, va_up_diff _ _ (by omega), va_up_diff _ _ (by omega), va_up_diff _ _ (by omega), va_up_diff _ _ (by omega), va_up_diff _ _ (by omega), va_up_diff _ _ (by omega), ht]
  · rw [cty _ (by omega), q6_t h, va_up_diff _ _ (by omega), va_up_diff _ _ (by omega), va_up_diff _ _ (by omega), va_up_diff _ _ (by omega), va_up_diff _ _ (by omega), va_up_same]
  · rw [cty _ (by omega), q6_t h, va_up_diff _ _ (by omega), va_up_diff _ _ (by omega), va_up_diff _ _ (by omega), va_up_diff _ _ (by omega), va_up_same]
  · rw [cty _ (by omega), q6_t h, va_up_diff _ _ (by omega), va_up_diff _ _ (by omega), va_up_diff _ _ (by omega), va_up_same]
  · rw [cty _ (by omega), q6_t h, va_up_diff _ _ (by omega), va_up_diff _ _ (by omega), va_up_same]
  · rw [cty _ (by omega), q6_t h, va_up_diff _ _ (by omega), va_up_same]
  · rw [cty _ (by omega), q6_t h, va_up_same]
  · rw [zq z x y, g.ar _ (by omega), (m2 (sv + 1) (by omega)).2.2.2.2.2.2 (by omega)]
    exact (a3 z.toNat (by omega)).1
  · rw [zq z x y, g.ty _ (by omega), (m2 _ (by omega)).1]
    exact (a3 z.toNat (by omega)).2.1
  · rw [pq p x y, g.ar _ (by omega)]
    exact (m3 p.toNat (by omega)).1
  · rw [pq p x y, g.ty _ (by omega)]
    exact (m3 p.toNat (by omega)).2.1
  · rw [pq p x y, g.fr _ _ (by omega)]
    exact (m3 p.toNat (by omega)).2.2.1
  · rw [pq p x y, g.ty _ (by omega)]
    exact (m3 p.toNat (by omega)).2.2.2.1
  · rw [zq z x y, g.fi _ _ (by omega), (m2 _ (by omega)).2.1, s0_a (by decide) (by decide)]
    exact (a3 z.toNat (by omega)).2.2.1
  · rw [zq z x y, g.fi _ _ (by omega), (m2 _ (by omega)).2.1, s0_1 x y]
    exact (a3 z.toNat (by omega)).2.2.2
  · rw [pq p x y, g.fi _ _ (by omega), s0_a (by decide) (by decide)]
    exact (m3 p.toNat (by omega)).2.2.2.2.1
  · rw [pq p x y, g.fi _ _ (by omega), s0_a (by decide) (by decide)]
    exact (m3 p.toNat (by omega)).2.2.2.2.2.1
  · rw [pq p x y, g.ai _ (by omega), s0_a (by decide) (by decide)]
    exact (m3 p.toNat (by omega)).2.2.2.2.2.2 i.toNat
end C45
