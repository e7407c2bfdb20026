section C34
variable {sv : Nat} {G G' : GM} {S S1 X : MS} {m m' M W : QM} {t : Int} {p i d w o k x : Int} {T a b : Nat}
theorem s42 : ma (seta S 42 k 1) 42 x = if x = k then 1 else ma S 42 x := by
  show (if 42 = 42 ∧ x = k then 1 else ma S 42 x) = _
  by_cases e : x = k
  · rw [if_pos ⟨rfl, e⟩, if_pos e]
  · rw [if_neg (fun z => e z.2), if_neg e]
theorem n42 {J : Nat} (h : J ≠ 42) (y : Int) : ma (seta S 42 k 1) J y = ma S J y := congrFun (seta_ne h) y
theorem ck42 (h : ¬ (x = k)) : cK (seta S 42 k 1) i p d x = cK S i p d x := by
  unfold cK
  rw [n42 (J := 31) (by decide), n42 (J := 34) (by decide), n42 (J := 32) (by decide), n42 (J := 37) (by decide), s42, if_neg h]
theorem ck42k : cK (seta S 42 k 1) i p d k = (decide (ma S 31 k = 1) && decide (ma S 34 k = i) && decide (ma S 32 k = p) && decide (ma S 37 k = d)) := by
  unfold cK
  rw [n42 (J := 31) (by decide), n42 (J := 34) (by decide), n42 (J := 32) (by decide), n42 (J := 37) (by decide), s42, if_pos rfl, decide_eq_true (show ¬ (1 : Int) = 0 by decide), Bool.and_true]
theorem later42 (f : Int) : later (seta S 42 k 1) x f = later S x f := by
  unfold later
  rw [n42 (by decide), n42 (by decide), n42 (by decide), n42 (by decide)]
theorem kept_o42 (h : ¬ (ma S 31 k = 1 ∧ ma S 34 k = i ∧ ma S 32 k = p ∧ ma S 37 k = d)) : kept (seta S 42 k 1) i p d = kept S i p d := by
  unfold kept
  refine bestTo_cg (seta_ne (by decide)) (seta_ne (by decide)) (fun x => ?_) _
  by_cases e : x = k
  · subst e
    have f1 : cK (seta S 42 x 1) i p d x = false := by
      rw [ck42k]
      cases h1 : decide (ma S 31 x = 1) <;> cases h2 : decide (ma S 34 x = i) <;> cases h3 : decide (ma S 32 x = p) <;> cases h4 : decide (ma S 37 x = d) <;> try rfl
      exact absurd ⟨of_decide_eq_true h1, of_decide_eq_true h2, of_decide_eq_true h3, of_decide_eq_true h4⟩ h
    have f2 : cK S i p d x = false := by
      cases g : cK S i p d x
      · rfl
      · have := cK_r g
        exact absurd ⟨this.1, this.2.2.1, this.2.2.2.1, this.2.2.2.2⟩ h
    rw [f1, f2]
  · exact ck42 e
theorem kept_s42 (hs : SI t S) (h0 : 0 ≤ k) (h1 : k < mf S 29) (hk : ma S 31 k = 1) : kept (seta S 42 k 1) (ma S 34 k) (ma S 32 k) (ma S 37 k) = (if later S k (kept S (ma S 34 k) (ma S 32 k) (ma S 37 k)) = true then k else kept S (ma S 34 k) (ma S 32 k) (ma S 37 k)) := by
  have hK := kept_is hs.wr hs.rp (ma S 34 k) (ma S 32 k) (ma S 37 k)
  have hn := hs.wr.nn
  have cC : cK (seta S 42 k 1) (ma S 34 k) (ma S 32 k) (ma S 37 k) k = true := by
    rw [ck42k, hk, decide_eq_true rfl, decide_eq_true rfl, decide_eq_true rfl, decide_eq_true rfl]; rfl
  have c31 : ∀ x, cK (seta S 42 k 1) (ma S 34 k) (ma S 32 k) (ma S 37 k) x = true → ma S 31 x = 1 := fun x hx => by
    have := (cK_r hx).1
    rw [n42 (by decide)] at this; exact this
  have hD : DS (seta S 42 k 1) (cK (seta S 42 k 1) (ma S 34 k) (ma S 32 k) (ma S 37 k)) ((mf S 29).toNat : Nat) := by
    have := DS_of (S := S) (c := cK (seta S 42 k 1) (ma S 34 k) (ma S 32 k) (ma S 37 k)) (n := ((mf S 29).toNat : Nat)) hs.rp (by omega) c31
    intro a b x y z u v w e
    rw [n42 (by decide), n42 (by decide)]
    exact this a b x y z u v w e
  have hB := best_is (S := seta S 42 k 1) (mf S 29).toNat hD
  rw [show (((mf S 29).toNat : Nat) : Int) = mf S 29 by omega] at hB
  refine isB_one hB ?_
  by_cases g : later S k (kept S (ma S 34 k) (ma S 32 k) (ma S 37 k)) = true
  · rw [if_pos g]
    refine Or.inr ⟨h0, h1, cC, fun x x0 x1 hx hne => ?_⟩
    rw [later42]
    rw [ck42 hne] at hx
    rcases hK with ⟨e, ha⟩ | ⟨b0, b1, bc, bl⟩
    · rw [ha x x0 x1] at hx; exact absurd hx (by decide)
    · by_cases e : x = kept S (ma S 34 k) (ma S 32 k) (ma S 37 k)
      · rw [e]; exact g
      · have := later_iff.mp (bl x x0 x1 hx e)
        have g2 := later_iff.mp g
        rw [later_iff]
        omega
  · rw [if_neg g]
    rcases hK with ⟨e, ha⟩ | ⟨b0, b1, bc, bl⟩
    · exact absurd (later_iff.mpr (Or.inl e)) g
    · refine Or.inr ⟨b0, b1, ?_, fun x x0 x1 hx hne => ?_⟩
      · by_cases e : kept S (ma S 34 k) (ma S 32 k) (ma S 37 k) = k
        · rw [e]; exact cC
        · rw [ck42 e]; exact bc
      · rw [later42]
        by_cases e : x = k
        · subst e
          rw [later_iff] at g ⊢
          have := DS_of hs.rp (Int.le_refl _) (fun y hy => (cK_r hy).1) (c := cK S (ma S 34 x) (ma S 32 x) (ma S 37 x)) (n := mf S 29)
          have h39 : ma S 39 x ≠ ma S 39 (kept S (ma S 34 x) (ma S 32 x) (ma S 37 x)) := by
            have k31 := (cK_r bc).1
            rcases Int.lt_or_lt_of_ne hne with q | q
            · have := hs.rp.1 _ _ x0 q b1 hk k31; omega
            · have := hs.rp.1 _ _ b0 q x1 k31 hk; omega
          omega
        · rw [ck42 e] at hx
          exact bl x x0 x1 hx hne
theorem dlv_b (hs : SI t S) (h0 : 0 ≤ k) (h1 : k < mf S 29) (hk : ma S 31 k = 1) : dlvB S k = later S k (kept S (ma S 34 k) (ma S 32 k) (ma S 37 k)) := by
  have hK := kept_is hs.wr hs.rp (ma S 34 k) (ma S 32 k) (ma S 37 k)
  have hx := hs.wr.ms h0 h1
  unfold dlvB
  rw [kept_s42 hs h0 h1 hk, decide_eq_false (show ¬ ma S 31 k = 2 by omega), Bool.false_or]
  have ck : cK S (ma S 34 k) (ma S 32 k) (ma S 37 k) k = decide (¬ ma S 42 k = 0) := by
    unfold cK
    rw [decide_eq_true hk, decide_eq_true rfl, decide_eq_true rfl, decide_eq_true rfl]
    cases decide (¬ ma S 42 k = 0) <;> rfl
  by_cases e : ma S 42 k = 0
  · rw [decide_eq_false (fun q => q e)] at ck ⊢
    rw [show (!false) = true from rfl, Bool.true_and]
    by_cases g : later S k (kept S (ma S 34 k) (ma S 32 k) (ma S 37 k)) = true
    · rw [if_pos g, g]; exact decide_eq_true rfl
    · rw [if_neg g, Bool.eq_false_iff.mpr g]
      refine decide_eq_false (fun q => ?_)
      rcases hK with ⟨z, _⟩ | ⟨b0, b1, bc, _⟩
      · omega
      · rw [q, ck] at bc; exact absurd bc (by decide)
  · rw [decide_eq_true e] at ck ⊢
    rw [show (!true) = false from rfl, Bool.false_and]
    symm
    refine Bool.eq_false_iff.mpr (fun g => ?_)
    have g2 := later_iff.mp g
    rcases hK with ⟨z, ha⟩ | ⟨b0, b1, bc, bl⟩
    · rw [ha k h0 h1] at ck; exact absurd ck (by decide)
    · by_cases q : k = kept S (ma S 34 k) (ma S 32 k) (ma S 37 k)
      · rw [← q] at g2; omega
      · have := later_iff.mp (bl k h0 h1 ck q); omega
end C34
