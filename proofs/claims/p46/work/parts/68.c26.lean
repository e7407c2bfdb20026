def EA (S' S : MS) : Prop := (∀ J, J < 31 → J ≠ 8 → ma S' J = ma S J) ∧ (∀ J y, 31 ≤ J → y ≠ mf S 29 → ma S' J y = ma S J y) ∧ ml S' = ml S ∧ (∀ J, J ≠ 29 → J ≠ 30 → mf S' J = mf S J) ∧ mf S' 29 = mf S 29 + 1
def gap (G : GM) (k : Int) (T a : Nat) : GM := (am G, an G, ac G, fun j => if j = k then T else ag G j, fun j => if j = k then a else av G j)
section C26
variable {sv : Nat} {G G' : GM} {S S' : MS} {m m' M W : QM} {t : Int} {T a : Nat}
theorem MT.fr3 {i : Int} (h : MT sv G S m i) (im : IMM sv m m') (e : ∀ b, am G i ≤ b → b < am G i + 10 → qty m' b = qty m b ∧ ∀ f, (64 ≤ f ∧ f < 128) ∨ (256 ≤ f ∧ f < 320) → qfi m' f b = qfi m f b ∧ qfr m' f b = qfr m f b) (ea : qar m' (sv + 3) i.toNat = qar m (sv + 3) i.toNat)
    (g1 : am G' i = am G i) (g2 : an G' i = an G i)
    (s4 : ma S' 4 i = ma S 4 i) (s5 : ma S' 5 i = ma S 5 i) (s6 : ma S' 6 i = ma S 6 i) (v5 : SV S' S (ma S 5 i))
    (cn : ∀ p : Int, 0 ≤ p → p < 5 → ma S' 25 (8 * p + i) = -1 → qar m' (am G i + 5) p.toNat = none)
    (cs : ∀ p : Int, 0 ≤ p → p < 5 → ma S' 25 (8 * p + i) ≠ -1 → qar m' (am G i + 5) p.toNat = some (ac G' (8 * p + i)) ∧ VS sv m' (ac G' (8 * p + i)) S' (ma S' 25 (8 * p + i)))
    (kn : ∀ p d : Int, 0 ≤ p → p < 5 → -1 ≤ d → d < 60 → qar m' (am G i + 7) (61 * p + d + 1).toNat = oad G' (kept S' i p d))
    (ow : ∀ p d : Int, 0 ≤ p → p < 5 → -1 ≤ d → d < 60 → qar m' (am G i + 9) (61 * p + d + 1).toNat = oad G' (ownb S' i p d)) : MT sv G' S' m' i := by
  have t : ∀ n, n < 10 → qty m' (am G i + n) = qty m (am G i + n) := fun n q => (e _ (by omega) (by omega)).1
  have fi : ∀ n f, n < 10 → (64 ≤ f ∧ f < 128) ∨ (256 ≤ f ∧ f < 320) → qfi m' f (am G i + n) = qfi m f (am G i + n) := fun n f q z => ((e _ (by omega) (by omega)).2 f z).1
  have fr : ∀ n f, n < 10 → (64 ≤ f ∧ f < 128) ∨ (256 ≤ f ∧ f < 320) → qfr m' f (am G i + n) = qfr m f (am G i + n) := fun n f q z => ((e _ (by omega) (by omega)).2 f z).2
  have f0 := fun f z => fi 0 f (by omega) z
  have r0 := fun f z => fr 0 f (by omega) z
  have top := im.top
  have hhi := h.hi
  rw [Nat.add_zero] at f0 r0
  exact ⟨by rw [g1]; exact h.lo, by rw [g1]; omega, by rw [g1]; exact ea.trans h.pl, by rw [g1]; exact (t 0 (by omega)).trans h.ty,
    by rw [g1]; exact (f0 64 (by omega)).trans h.f0, by rw [g1, s4]; exact (f0 65 (by omega)).trans h.f1, by rw [g1, g2]; exact (r0 66 (by omega)).trans h.f2, by rw [g1]; exact (r0 67 (by omega)).trans h.f3, by rw [g1, s6]; exact (f0 68 (by omega)).trans h.f4, by rw [g1]; exact (r0 69 (by omega)).trans h.f5, by rw [g1]; exact (r0 70 (by omega)).trans h.f6,
    by rw [g1]; exact (t 5 (by omega)).trans h.t5, by rw [g1]; exact (t 6 (by omega)).trans h.t6, by rw [g1]; exact (t 7 (by omega)).trans h.t7, by rw [g1]; exact (t 8 (by omega)).trans h.t8, by rw [g1]; exact (t 9 (by omega)).trans h.t9,
    by rw [g1]; exact (fr 6 256 (by omega) (by omega)).trans h.r6, by rw [g1]; exact (fr 8 256 (by omega) (by omega)).trans h.r8,
    by rw [g2, s5]; exact (h.now.fr im).to v5, fun p x y z => by rw [g1]; exact cn p x y z, fun p x y z => by rw [g1]; exact cs p x y z, fun p d x y z w => by rw [g1]; exact kn p d x y z w, fun p d x y z w => by rw [g1]; exact ow p d x y z w⟩
theorem bestTo_app {c c' : Int → Bool} {n : Int} (e36 : ∀ y, y ≠ n → ma S' 36 y = ma S 36 y) (e39 : ∀ y, y ≠ n → ma S' 39 y = ma S 39 y) (hc : ∀ y, y ≠ n → c' y = c y) : ∀ j : Nat, (j : Int) ≤ n → bestTo S' c' j = bestTo S c j := by
  intro j
  induction j with
  | zero => exact fun _ => rfl
  | succ j ih =>
    intro hj
    have ih := ih (by omega)
    show (if (c' j && later S' j (bestTo S' c' j)) = true then (j : Int) else bestTo S' c' j) = (if (c j && later S j (bestTo S c j)) = true then (j : Int) else bestTo S c j)
    have hr := bestTo_r S c j
    rw [ih, hc j (by omega)]
    unfold later
    rw [e36 j (by omega), e39 j (by omega), e36 (bestTo S c j) (by omega), e39 (bestTo S c j) (by omega)]
theorem kept_app (e : EA S' S) (h42 : ma S' 42 (mf S 29) = 0) (h0 : 0 ≤ mf S 29) (i p d : Int) : kept S' i p d = kept S i p d := by
  unfold kept
  have n1 : (mf S' 29).toNat = (mf S 29).toNat + 1 := by rw [e.2.2.2.2]; omega
  have n2 : (((mf S 29).toNat : Nat) : Int) = mf S 29 := by omega
  rw [n1]
  show (if (cK S' i p d ((mf S 29).toNat : Nat) && later S' ((mf S 29).toNat : Nat) (bestTo S' (cK S' i p d) (mf S 29).toNat)) = true then (((mf S 29).toNat : Nat) : Int) else bestTo S' (cK S' i p d) (mf S 29).toNat) = _
  have c0 : cK S' i p d ((mf S 29).toNat : Nat) = false := by
    rw [n2]; unfold cK
    rw [h42, decide_eq_false (show ¬ ¬ (0 : Int) = 0 by decide), Bool.and_false]; rfl
  rw [c0, Bool.false_and, if_neg (by decide)]
  exact bestTo_app (n := mf S 29) (fun y q => e.2.1 36 y (by decide) q) (fun y q => e.2.1 39 y (by decide) q) (fun y q => by unfold cK; rw [e.2.1 31 y (by decide) q, e.2.1 42 y (by decide) q, e.2.1 34 y (by decide) q, e.2.1 32 y (by decide) q, e.2.1 37 y (by decide) q]) _ (by omega)
theorem ownb_app (e : EA S' S) (h0 : 0 ≤ mf S 29) (i p d : Int) : ownb S' i p d = if (cO S' i p d (mf S 29) && later S' (mf S 29) (ownb S i p d)) = true then mf S 29 else ownb S i p d := by
  unfold ownb
  have n1 : (mf S' 29).toNat = (mf S 29).toNat + 1 := by rw [e.2.2.2.2]; omega
  have n2 : (((mf S 29).toNat : Nat) : Int) = mf S 29 := by omega
  have b := bestTo_app (S' := S') (S := S) (c' := cO S' i p d) (c := cO S i p d) (n := mf S 29) (fun y q => e.2.1 36 y (by decide) q) (fun y q => e.2.1 39 y (by decide) q) (fun y q => by unfold cO; rw [e.2.1 31 y (by decide) q, e.2.1 34 y (by decide) q, e.2.1 32 y (by decide) q, e.2.1 37 y (by decide) q]) (mf S 29).toNat (by omega)
  rw [n1]
  show (if (cO S' i p d ((mf S 29).toNat : Nat) && later S' ((mf S 29).toNat : Nat) (bestTo S' (cO S' i p d) (mf S 29).toNat)) = true then (((mf S 29).toNat : Nat) : Int) else bestTo S' (cO S' i p d) (mf S 29).toNat) = _
  rw [b, n2]
theorem ownb_lt (h0 : 0 ≤ mf S 29) (i p d : Int) : ownb S i p d < mf S 29 := by
  have := bestTo_r S (cO S i p d) (mf S 29).toNat
  unfold ownb
  omega
theorem kept_lt (h0 : 0 ≤ mf S 29) (i p d : Int) : kept S i p d < mf S 29 := by
  have := bestTo_r S (cK S i p d) (mf S 29).toNat
  unfold kept
  omega
theorem oad_gap {k x : Int} (h : x < k) : oad (gap G k T a) x = oad G x := by
  unfold oad
  by_cases e : x = -1
  · rw [if_pos e, if_pos e]
  · rw [if_neg e, if_neg e]
    show some (if x = k then T else ag G x) = some (ag G x)
    rw [if_neg (by omega)]
theorem EA.svv (e : EA S' S) (v : Int) : SV S' S v := ⟨fun J a b => by rw [e.1 J (by omega) (by omega)], fun J _ _ => by rw [e.2.2.1], fun d _ _ => by rw [e.1 24 (by decide) (by decide)]⟩
theorem CR.app (h : CR sv G S M) (h0 : 0 ≤ mf S 29) (e : EA S' S) (h42 : ma S' 42 (mf S 29) = 0) (hw : ∀ k, 0 ≤ k → k < mf S 29 → ag G k < T)
    (f30 : qfi W 454 sv = I (mf S' 30)) (f29 : qfi W 453 sv = I (mf S 29 + 1))
    (wt : qtop W = qtop M) (wy : qty W = qty M) (wl : qfl W = qfl M) (wr : qfr W = qfr M) (wa : qai W = qai M) (wi : ∀ f b, f ≠ 453 → f ≠ 454 → qfi W f b = qfi M f b)
    (w4 : ∀ j, qar W (sv + 4) j = if j = (mf S 29).toNat then some T else qar M (sv + 4) j)
    (wo : ∀ b, b ≠ sv + 4 → (∀ i, 0 ≤ i → i < mf S 3 → b ≠ am G i + 9) → qar W b = qar M b)
    (ow : ∀ i p d : Int, 0 ≤ i → i < mf S 3 → 0 ≤ p → p < 5 → -1 ≤ d → d < 60 → qar W (am G i + 9) (61 * p + d + 1).toNat = oad (gap G (mf S 29) T a) (ownb S' i p d))
    (mg : MG sv (gap G (mf S 29) T a) S' W (mf S 29)) : CR sv (gap G (mf S 29) T a) S' W := by
  have cf := h.cf
  have im : IMM sv M W := ⟨by omega, fun b _ _ => by rw [wy], fun f b _ _ _ => wi f b (by omega) (by omega), fun f b _ _ _ => by rw [wl], fun f b _ _ _ => by rw [wr], fun b _ _ => by rw [wa]⟩
  have f3 : mf S' 3 = mf S 3 := e.2.2.2.1 3 (by decide) (by decide)
  have f29' : mf S' 29 = mf S 29 + 1 := e.2.2.2.2
  have lo : ∀ b, b ≠ sv + 4 → b < sv + 23 → qar W b = qar M b := fun b q z => wo b q (fun i x y => by have := (h.mt i x y).lo; omega)
  have ro : ∀ j n, 0 ≤ j → j < mf S 3 → n < 9 → qar W (am G j + n) = qar M (am G j + n) := fun j n x y z => by
    have hj := (h.mt j x y).lo
    refine wo _ (by omega) (fun i u v => ?_)
    by_cases q : i = j
    · subst q; omega
    · rcases Int.lt_or_lt_of_ne q with q | q
      · have := h.mi i j u q y; omega
      · have := h.mi j i x q v; omega
  have hcf : CF sv W := by
    refine ⟨?_, ?_, ?_, ?_, ?_, ?_, ?_, ?_, ?_, ?_, ?_, ?_, ?_, fun z x y => by rw [lo _ (by omega) (by omega)]; exact cf.zr z x y, ?_, fun z x y => by rw [lo _ (by omega) (by omega)]; exact cf.pr z x y, ?_, ?_, ?_, by rw [wt]; exact cf.top⟩
    all_goals first | rw [wy] | rw [wr]
    · exact cf.ty
    · exact cf.f0
    · exact cf.f1
    · exact cf.f2
    · exact cf.f3
    · exact cf.f7
    · exact cf.f8
    · exact cf.t1
    · exact cf.t2
    · exact cf.t3
    · exact cf.t4
    · exact cf.t5
    · exact cf.t6
    · exact cf.zt
    · exact cf.pt
    · exact cf.pf
    · exact cf.pe
  refine ⟨hcf, by rw [f3]; exact (wi _ _ (by decide) (by decide)).trans h.f4, by rw [f29']; exact f29, f30,
    fun z x y => by rw [e.1 0 (by decide) (by decide)]; exact (wi _ _ (by decide) (by decide)).trans (h.z0 z x y), fun z x y => by rw [e.1 1 (by decide) (by decide)]; exact (wi _ _ (by decide) (by decide)).trans (h.z1 z x y), fun z x y w => by
      rw [e.1 1 (by decide) (by decide)] at w
      rw [e.1 2 (by decide) (by decide)]; exact (wi _ _ (by decide) (by decide)).trans (h.z2 z x y w),
    fun p x y => by rw [e.1 27 (by decide) (by decide)]; exact (wi _ _ (by decide) (by decide)).trans (h.p0 p x y), fun p x y => by rw [e.1 28 (by decide) (by decide)]; exact (wi _ _ (by decide) (by decide)).trans (h.p1 p x y), fun p i x y z w => by rw [e.1 26 (by decide) (by decide), wa]; exact h.pe p i x y z w,
    fun i x y => ?_, fun i j x y z => h.mi i j x y (by rw [f3] at z; exact z), fun k x y => ?_, fun k l x y z => ?_⟩
  · rw [f3] at y
    have hm := h.mt i x y
    refine hm.fr3 im (fun b u v => ⟨by rw [wy], fun f q => ⟨wi f b (by omega) (by omega), by rw [wr]⟩⟩) (by rw [lo _ (by omega) (by omega)]) rfl rfl (by rw [e.1 4 (by decide) (by decide)]) (by rw [e.1 5 (by decide) (by decide)]) (by rw [e.1 6 (by decide) (by decide)]) (e.svv _) (fun p u v w => ?_) (fun p u v w => ?_) (fun p d u v w z => ?_) (fun p d u v w z => ow i p d x y u v w z)
    · rw [e.1 25 (by decide) (by decide)] at w
      rw [ro i 5 x y (by decide)]; exact hm.cn p u v w
    · rw [e.1 25 (by decide) (by decide)] at w ⊢
      rw [ro i 5 x y (by decide)]
      exact ⟨(hm.cs p u v w).1, ((hm.cs p u v w).2.fr im).to (e.svv _)⟩
    · rw [ro i 7 x y (by decide), kept_app e h42 h0, oad_gap (kept_lt h0 _ _ _)]; exact hm.kn p d u v w z
  · rw [f29'] at y
    by_cases q : k = mf S 29
    · subst q; exact mg
    · have hk := h.mg k x (by omega)
      refine hk.fr im (by rw [wy]) (fun f q => ⟨wi f _ (by omega) (by omega), by rw [wr]⟩) ?_ (if_neg q) (if_neg q) rfl (fun J a b => e.2.1 J k a q) (fun _ => e.svv _)
      rw [w4, if_neg (by omega)]
  · rw [f29'] at z
    show (if k = mf S 29 then T else ag G k) < (if l = mf S 29 then T else ag G l)
    rw [if_neg (by omega)]
    by_cases q : l = mf S 29
    · rw [if_pos q]; exact hw k x (by omega)
    · rw [if_neg q]; exact h.gi k l x y (by omega)
end C26
