def IML (sv : Nat) (m m' : QM) : Prop :=
  (qtop m ≤ qtop m') ∧ (∀ b, sv + 23 ≤ b → b < qtop m → qty m' b = qty m b) ∧ (∀ f b, 320 ≤ f → f < 384 → sv + 23 ≤ b → b < qtop m → qfi m' f b = qfi m f b) ∧ (∀ f b, 320 ≤ f → f < 384 → sv + 23 ≤ b → b < qtop m → qfl m' f b = qfl m f b) ∧ (∀ f b, 320 ≤ f → f < 384 → sv + 23 ≤ b → b < qtop m → qfr m' f b = qfr m f b) ∧ (∀ b, sv + 23 ≤ b → b < qtop m → qai m' b = qai m b)
theorem IML.top {sv : Nat} {m m' : QM} (h : IML sv m m') : qtop m ≤ qtop m' := h.1
theorem IML.ty {sv : Nat} {m m' : QM} (h : IML sv m m') : ∀ b, sv + 23 ≤ b → b < qtop m → qty m' b = qty m b := h.2.1
theorem IML.fi {sv : Nat} {m m' : QM} (h : IML sv m m') : ∀ f b, 320 ≤ f → f < 384 → sv + 23 ≤ b → b < qtop m → qfi m' f b = qfi m f b := h.2.2.1
theorem IML.fl {sv : Nat} {m m' : QM} (h : IML sv m m') : ∀ f b, 320 ≤ f → f < 384 → sv + 23 ≤ b → b < qtop m → qfl m' f b = qfl m f b := h.2.2.2.1
theorem IML.fr {sv : Nat} {m m' : QM} (h : IML sv m m') : ∀ f b, 320 ≤ f → f < 384 → sv + 23 ≤ b → b < qtop m → qfr m' f b = qfr m f b := h.2.2.2.2.1
theorem IML.ai {sv : Nat} {m m' : QM} (h : IML sv m m') : ∀ b, sv + 23 ≤ b → b < qtop m → qai m' b = qai m b := h.2.2.2.2.2
section C48
variable {sv : Nat} {m m' : QM} {G G' : GM} {S S' : MS}
theorem IA.frL {a : Nat} {f : Int → Int} (h : IA sv m a f) (i : IML sv m m') : IA sv m' a f :=
  ⟨⟨h.1.1, Nat.lt_of_lt_of_le h.1.2 i.top⟩, (i.ty a h.1.1 h.1.2).trans h.2.1, fun d x y => by rw [i.ai a h.1.1 h.1.2]; exact h.2.2 d x y⟩
theorem DR.frL {a : Nat} {x : Int64} (h : DR sv m a x) (i : IML sv m m') : DR sv m' a x :=
  ⟨⟨h.1.1, Nat.lt_of_lt_of_le h.1.2 i.top⟩, (i.ty a h.1.1 h.1.2).trans h.2.1, fun d x y => by rw [i.ai a h.1.1 h.1.2]; exact h.2.2 d x y⟩
theorem VR.frL {a : Nat} {ri : Nat → Int} {rl : Nat → Int64} {rd : Int → Int} (h : VR sv m a ri rl rd) (i : IML sv m m') : VR sv m' a ri rl rd := by
  have l := h.lo
  have u := h.hi
  have fi : ∀ f, 320 ≤ f → f < 384 → qfi m' f a = qfi m f a := fun f x y => i.fi f a x y l u
  have fl : ∀ f, 320 ≤ f → f < 384 → qfl m' f a = qfl m f a := fun f x y => i.fl f a x y l u
  have fr : ∀ f, 320 ≤ f → f < 384 → qfr m' f a = qfr m f a := fun f x y => i.fr f a x y l u
  obtain ⟨b1, p1, q1⟩ := h.dr
  obtain ⟨b2, p2, q2⟩ := h.mr
  obtain ⟨b3, p3, q3⟩ := h.sr
  refine ⟨l, Nat.lt_of_lt_of_le u i.top, (i.ty a l u).trans h.ty, (fi 320 (by omega) (by omega)).trans h.f0, (fr 321 (by omega) (by omega)).trans h.f1, (fi 322 (by omega) (by omega)).trans h.f2, (fi 323 (by omega) (by omega)).trans h.f3, (fi 324 (by omega) (by omega)).trans h.f4, (fi 325 (by omega) (by omega)).trans h.f5, (fi 326 (by omega) (by omega)).trans h.f6, (fi 327 (by omega) (by omega)).trans h.f7, (fl 328 (by omega) (by omega)).trans h.f8, (fl 329 (by omega) (by omega)).trans h.f9, (fl 330 (by omega) (by omega)).trans h.f10, (fi 334 (by omega) (by omega)).trans h.f14, (fi 335 (by omega) (by omega)).trans h.f15, (fi 336 (by omega) (by omega)).trans h.f16, ⟨b1, (fr 331 (by omega) (by omega)).trans p1, q1.frL i⟩, ⟨b2, (fr 332 (by omega) (by omega)).trans p2, q2.frL i⟩, ⟨b3, (fr 333 (by omega) (by omega)).trans p3, q3.frL i⟩⟩
theorem VS.frL {a : Nat} {S : MS} {v : Int} (h : VS sv m a S v) (i : IML sv m m') : VS sv m' a S v := VR.frL h i
theorem MT.frL {i : Int} (h : MT sv G S m i) (im : IML sv m m') (e : CM m m' (am G i)) (ea : qar m' (sv + 3) i.toNat = qar m (sv + 3) i.toNat)
    (g1 : am G' i = am G i) (g2 : an G' i = an G i) (g3 : ∀ p : Int, 0 ≤ p → p < 5 → ac G' (8 * p + i) = ac G (8 * p + i))
    (s4 : ma S' 4 i = ma S 4 i) (s5 : ma S' 5 i = ma S 5 i) (s6 : ma S' 6 i = ma S 6 i) (s25 : ∀ p : Int, 0 ≤ p → p < 5 → ma S' 25 (8 * p + i) = ma S 25 (8 * p + i))
    (v5 : SV S' S (ma S 5 i)) (vc : ∀ p : Int, 0 ≤ p → p < 5 → ma S 25 (8 * p + i) ≠ -1 → SV S' S (ma S 25 (8 * p + i)))
    (kk : ∀ p d : Int, 0 ≤ p → p < 5 → -1 ≤ d → d < 60 → oad G' (kept S' i p d) = oad G (kept S i p d)) (oo : ∀ p d : Int, 0 ≤ p → p < 5 → -1 ≤ d → d < 60 → oad G' (ownb S' i p d) = oad G (ownb S i p d)) : MT sv G' S' m' i := by
  have t : ∀ n, n < 10 → qty m' (am G i + n) = qty m (am G i + n) := fun n q => (e _ (by omega) (by omega)).1
  have fi : ∀ n f, n < 10 → (64 ≤ f ∧ f < 128) ∨ (256 ≤ f ∧ f < 320) → qfi m' f (am G i + n) = qfi m f (am G i + n) := fun n f q z => ((e _ (by omega) (by omega)).2.1 f z).1
  have fr : ∀ n f, n < 10 → (64 ≤ f ∧ f < 128) ∨ (256 ≤ f ∧ f < 320) → qfr m' f (am G i + n) = qfr m f (am G i + n) := fun n f q z => ((e _ (by omega) (by omega)).2.1 f z).2
  have ar : ∀ n, n < 10 → qar m' (am G i + n) = qar m (am G i + n) := fun n q => (e _ (by omega) (by omega)).2.2
  have f0 := fun f z => fi 0 f (by omega) z
  have r0 := fun f z => fr 0 f (by omega) z
  have top := im.top
  have hhi := h.hi
  rw [Nat.add_zero] at f0 r0
  refine ⟨by rw [g1]; exact h.lo, by rw [g1]; omega, by rw [g1]; exact ea.trans h.pl, by rw [g1]; exact (t 0 (by omega)).trans h.ty,
    by rw [g1]; exact (f0 64 (by omega)).trans h.f0, by rw [g1, s4]; exact (f0 65 (by omega)).trans h.f1, by rw [g1, g2]; exact (r0 66 (by omega)).trans h.f2, by rw [g1]; exact (r0 67 (by omega)).trans h.f3, by rw [g1, s6]; exact (f0 68 (by omega)).trans h.f4, by rw [g1]; exact (r0 69 (by omega)).trans h.f5, by rw [g1]; exact (r0 70 (by omega)).trans h.f6,
    by rw [g1]; exact (t 5 (by omega)).trans h.t5, by rw [g1]; exact (t 6 (by omega)).trans h.t6, by rw [g1]; exact (t 7 (by omega)).trans h.t7, by rw [g1]; exact (t 8 (by omega)).trans h.t8, by rw [g1]; exact (t 9 (by omega)).trans h.t9,
    by rw [g1]; exact (fr 6 256 (by omega) (by omega)).trans h.r6, by rw [g1]; exact (fr 8 256 (by omega) (by omega)).trans h.r8,
    by rw [g2, s5]; exact (h.now.frL im).to v5, fun p x y z => ?_, fun p x y z => ?_, fun p d x y z w => ?_, fun p d x y z w => ?_⟩
  · rw [s25 p x y] at z
    rw [g1, ar 5 (by omega)]; exact h.cn p x y z
  · rw [s25 p x y] at z ⊢
    rw [g1, g3 p x y, ar 5 (by omega)]
    exact ⟨(h.cs p x y z).1, ((h.cs p x y z).2.frL im).to (vc p x y z)⟩
  · rw [g1, ar 7 (by omega), kk p d x y z w]; exact h.kn p d x y z w
  · rw [g1, ar 9 (by omega), oo p d x y z w]; exact h.ow p d x y z w
theorem MG.frL {k : Int} (h : MG sv G S m k) (im : IML sv m m') (et : qty m' (ag G k) = qty m (ag G k)) (ef : ∀ f, f < 320 → qfi m' f (ag G k) = qfi m f (ag G k) ∧ qfr m' f (ag G k) = qfr m f (ag G k)) (ea : qar m' (sv + 4) k.toNat = qar m (sv + 4) k.toNat)
    (g1 : ag G' k = ag G k) (g2 : av G' k = av G k) (g3 : am G' (ma S 34 k) = am G (ma S 34 k)) (s : ∀ J, 31 ≤ J → J ≤ 43 → ma S' J k = ma S J k) (vv : ma S 31 k = 0 → SV S' S (ma S 35 k)) : MG sv G' S' m' k := by
  have top := im.top
  have fi := fun f z => (ef f z).1
  have fr := fun f z => (ef f z).2
  have s31 := s 31 (by omega) (by omega)
  refine ⟨by rw [g1]; exact h.lo, by rw [g1]; exact Nat.lt_of_lt_of_le h.hi top, by rw [g1]; exact et.trans h.ty, by rw [g1]; exact ea.trans h.pl,
    by rw [g1, s31]; exact (fi 128 (by omega)).trans h.f0, by rw [g1, s 34 (by omega) (by omega), g3]; exact (fr 129 (by omega)).trans h.f1, by rw [g1, s 32 (by omega) (by omega)]; exact (fi 130 (by omega)).trans h.f2, by rw [g1, s 33 (by omega) (by omega)]; exact (fi 131 (by omega)).trans h.f3, by rw [g1, g2]; exact (fr 132 (by omega)).trans h.f4,
    by rw [g2]; exact h.vlo, by rw [g2]; exact Nat.lt_of_lt_of_le h.vhi top, by rw [g2]; exact (im.ty _ h.vlo h.vhi).trans h.vty, by rw [g2, s 36 (by omega) (by omega)]; exact (im.fi 320 _ (by omega) (by omega) h.vlo h.vhi).trans h.v0, fun z => ?_,
    by rw [g1, s 37 (by omega) (by omega)]; exact (fi 133 (by omega)).trans h.f5, fun z => ?_, fun z => ?_, fun z => ?_, fun z => ?_, fun z => ?_, fun z => ?_⟩
  · rw [s31] at z
    rw [g2, s 35 (by omega) (by omega)]; exact ((h.vs z).frL im).to (vv z)
  · rw [s31] at z
    rw [g1, s 41 (by omega) (by omega)]; exact (fi 134 (by omega)).trans (h.f6 z)
  · rw [s31] at z
    rw [g1, s 38 (by omega) (by omega)]; exact (fi 135 (by omega)).trans (h.f7 z)
  · rw [s31] at z
    rw [g1, s 38 (by omega) (by omega), s 40 (by omega) (by omega)]; exact (fi 136 (by omega)).trans (h.f8 z)
  · rw [s31] at z
    rw [g1, s 39 (by omega) (by omega)]; exact (fi 137 (by omega)).trans (h.f9 z)
  · rw [s31] at z
    rw [g1, s 42 (by omega) (by omega)]; exact (fi 138 (by omega)).trans (h.f10 z)
  · rw [s31] at z
    rw [g1, s 43 (by omega) (by omega)]; exact (fi 139 (by omega)).trans (h.f11 z)
end C48
