theorem later_iff {S : MS} {k f : Int} : later S k f = true ↔ (f = -1 ∨ ma S 36 f < ma S 36 k ∨ (ma S 36 k = ma S 36 f ∧ ma S 39 f < ma S 39 k)) := by
  unfold later
  rw [Bool.or_eq_true, Bool.or_eq_true, Bool.and_eq_true, decide_eq_true_eq, decide_eq_true_eq, decide_eq_true_eq, decide_eq_true_eq, or_assoc]
def isB (S : MS) (c : Int → Bool) (n : Int) (b : Int) : Prop := (b = -1 ∧ ∀ k : Int, 0 ≤ k → k < n → c k = false) ∨ (0 ≤ b ∧ b < n ∧ c b = true ∧ ∀ k : Int, 0 ≤ k → k < n → c k = true → k ≠ b → later S b k = true)
def DS (S : MS) (c : Int → Bool) (n : Int) : Prop := ∀ k l : Int, 0 ≤ k → k < n → 0 ≤ l → l < n → c k = true → c l = true → k ≠ l → ma S 39 k ≠ ma S 39 l
theorem best_is {S : MS} {c : Int → Bool} : ∀ n : Nat, DS S c n → isB S c n (bestTo S c n) := by
  intro n
  induction n with
  | zero => exact fun _ => Or.inl ⟨rfl, fun k h0 h1 => absurd h1 (by omega)⟩
  | succ j ih =>
    intro hs
    have ih := ih (fun k l a b x d e f g => hs k l a (by omega) x (by omega) e f g)
    show isB S c ((j + 1 : Nat) : Int) (if (c j && later S j (bestTo S c j)) = true then (j : Int) else bestTo S c j)
    generalize bestTo S c j = f at ih ⊢
    by_cases g : (c j && later S j f) = true
    · rw [if_pos g]
      rw [Bool.and_eq_true] at g
      refine Or.inr ⟨by omega, by omega, g.1, fun k h0 h1 hk hne => ?_⟩
      have hkj : k < j := by omega
      rcases ih with ⟨e, hall⟩ | ⟨f0, f1, fc, fl⟩
      · rw [hall k h0 hkj] at hk; exact absurd hk (by decide)
      · have g2 := later_iff.mp g.2
        rw [later_iff]
        by_cases e : k = f
        · subst e; omega
        · have := later_iff.mp (fl k h0 hkj hk e)
          omega
    · rw [if_neg g]
      rcases ih with ⟨e, hall⟩ | ⟨f0, f1, fc, fl⟩
      · refine Or.inl ⟨e, fun k h0 h1 => ?_⟩
        by_cases ek : k = j
        · subst ek
          cases hc : c j
          · rfl
          · exact absurd (by rw [hc, Bool.true_and]; exact later_iff.mpr (Or.inl e)) g
        · exact hall k h0 (by omega)
      · refine Or.inr ⟨f0, by omega, fc, fun k h0 h1 hk hne => ?_⟩
        by_cases ek : k = j
        · subst ek
          have nl : ¬ later S j f = true := fun q => g (by rw [hk, q]; rfl)
          rw [later_iff] at nl ⊢
          have := hs j f (by omega) (by omega) f0 (by omega) hk fc hne
          omega
        · exact fl k h0 (by omega) hk hne
theorem isB_one {S : MS} {c : Int → Bool} {n b b' : Int} (h : isB S c n b) (h' : isB S c n b') : b = b' := by
  rcases h with ⟨e, ha⟩ | ⟨b0, b1, bc, bl⟩
  · rcases h' with ⟨e', _⟩ | ⟨b0', b1', bc', _⟩
    · rw [e, e']
    · rw [ha b' b0' b1'] at bc'; exact absurd bc' (by decide)
  · rcases h' with ⟨e', ha'⟩ | ⟨b0', b1', bc', bl'⟩
    · rw [ha' b b0 b1] at bc; exact absurd bc (by decide)
    · by_cases e : b = b'
      · exact e
      · have h1 := later_iff.mp (bl b' b0' b1' bc' (fun q => e q.symm))
        have h2 := later_iff.mp (bl' b b0 b1 bc e)
        omega
def two (S : MS) (B1 B2 s : Int) : Int :=
  if B2 ≠ -1 ∧ s ≤ ma S 36 B2 ∧ later S B2 (if B1 ≠ -1 ∧ s ≤ ma S 36 B1 then B1 else -1) = true then B2 else if B1 ≠ -1 ∧ s ≤ ma S 36 B1 then B1 else -1
theorem best_two {S : MS} {c1 c2 c : Int → Bool} {n B1 B2 s : Int} (hd : DS S c n) (hc : ∀ k, c k = ((c1 k || c2 k) && decide (s ≤ ma S 36 k))) (h1 : isB S c1 n B1) (h2 : isB S c2 n B2) : isB S c n (two S B1 B2 s) := by
  unfold two
  have key : ∀ k, 0 ≤ k → k < n → c k = true → (c1 k = true ∨ c2 k = true) ∧ s ≤ ma S 36 k := fun k _ _ hk => by
    rw [hc k, Bool.and_eq_true, Bool.or_eq_true] at hk
    exact ⟨hk.1, of_decide_eq_true hk.2⟩
  have k1 : ∀ k, 0 ≤ k → k < n → c1 k = true → s ≤ ma S 36 k → 0 ≤ B1 ∧ B1 < n ∧ c1 B1 = true ∧ s ≤ ma S 36 B1 ∧ (k ≠ B1 → later S B1 k = true) := fun k a b hk hs => by
    rcases h1 with ⟨e, ha⟩ | ⟨b0, b1, bc, bl⟩
    · rw [ha k a b] at hk; exact absurd hk (by decide)
    · refine ⟨b0, b1, bc, ?_, fun e => bl k a b hk e⟩
      by_cases e : k = B1
      · subst e; exact hs
      · have := later_iff.mp (bl k a b hk e); omega
  have k2 : ∀ k, 0 ≤ k → k < n → c2 k = true → s ≤ ma S 36 k → 0 ≤ B2 ∧ B2 < n ∧ c2 B2 = true ∧ s ≤ ma S 36 B2 ∧ (k ≠ B2 → later S B2 k = true) := fun k a b hk hs => by
    rcases h2 with ⟨e, ha⟩ | ⟨b0, b1, bc, bl⟩
    · rw [ha k a b] at hk; exact absurd hk (by decide)
    · refine ⟨b0, b1, bc, ?_, fun e => bl k a b hk e⟩
      by_cases e : k = B2
      · subst e; exact hs
      · have := later_iff.mp (bl k a b hk e); omega
  have u1 : B1 ≠ -1 → s ≤ ma S 36 B1 → 0 ≤ B1 ∧ B1 < n ∧ c B1 = true := fun a b => by
    rcases h1 with ⟨e, _⟩ | ⟨b0, b1, bc, _⟩
    · exact absurd e a
    · exact ⟨b0, b1, by rw [hc, bc, decide_eq_true b]; rfl⟩
  have u2 : B2 ≠ -1 → s ≤ ma S 36 B2 → 0 ≤ B2 ∧ B2 < n ∧ c B2 = true := fun a b => by
    rcases h2 with ⟨e, _⟩ | ⟨b0, b1, bc, _⟩
    · exact absurd e a
    · exact ⟨b0, b1, by rw [hc, bc, decide_eq_true b, Bool.or_true]; rfl⟩
  by_cases g1 : B1 ≠ -1 ∧ s ≤ ma S 36 B1
  · have v1 := u1 g1.1 g1.2
    rw [if_pos g1]
    by_cases g2 : B2 ≠ -1 ∧ s ≤ ma S 36 B2 ∧ later S B2 B1 = true
    · rw [if_pos g2]
      have v2 := u2 g2.1 g2.2.1
      have g3 := later_iff.mp g2.2.2
      refine Or.inr ⟨v2.1, v2.2.1, v2.2.2, fun k a b hk hne => ?_⟩
      obtain ⟨q, hs⟩ := key k a b hk
      rcases q with q | q
      · have w := k1 k a b q hs
        rw [later_iff]
        by_cases e : k = B1
        · subst e; omega
        · have := later_iff.mp (w.2.2.2.2 e); omega
      · exact (k2 k a b q hs).2.2.2.2 hne
    · rw [if_neg g2]
      refine Or.inr ⟨v1.1, v1.2.1, v1.2.2, fun k a b hk hne => ?_⟩
      obtain ⟨q, hs⟩ := key k a b hk
      rcases q with q | q
      · exact (k1 k a b q hs).2.2.2.2 hne
      · have w := k2 k a b q hs
        have nl : ¬ later S B2 B1 = true := fun z => g2 ⟨by omega, w.2.2.2.1, z⟩
        rw [later_iff] at nl ⊢
        by_cases e2 : B2 = B1
        · rw [e2] at w
          exact (later_iff.mp (w.2.2.2.2 hne))
        · have v2 := u2 (by omega) w.2.2.2.1
          have := hd B2 B1 v2.1 v2.2.1 v1.1 v1.2.1 v2.2.2 v1.2.2 e2
          by_cases e : k = B2
          · subst e; omega
          · have := later_iff.mp (w.2.2.2.2 e); omega
  · rw [if_neg g1]
    by_cases g2 : B2 ≠ -1 ∧ s ≤ ma S 36 B2
    · rw [if_pos ⟨g2.1, g2.2, later_iff.mpr (Or.inl rfl)⟩]
      have v2 := u2 g2.1 g2.2
      refine Or.inr ⟨v2.1, v2.2.1, v2.2.2, fun k a b hk hne => ?_⟩
      obtain ⟨q, hs⟩ := key k a b hk
      rcases q with q | q
      · have w := k1 k a b q hs
        exact absurd ⟨by omega, w.2.2.2.1⟩ g1
      · exact (k2 k a b q hs).2.2.2.2 hne
    · rw [if_neg (fun q => g2 ⟨q.1, q.2.1⟩)]
      refine Or.inl ⟨rfl, fun k a b => ?_⟩
      cases hk : c k
      · rfl
      · obtain ⟨q, hs⟩ := key k a b hk
        rcases q with q | q
        · have w := k1 k a b q hs
          exact absurd ⟨by omega, w.2.2.2.1⟩ g1
        · have w := k2 k a b q hs
          exact absurd ⟨by omega, w.2.2.2.1⟩ g2
def RP (S : MS) : Prop := (∀ k l : Int, 0 ≤ k → k < l → l < mf S 29 → ma S 31 k = 1 → ma S 31 l = 1 → ma S 39 k < ma S 39 l) ∧ ∀ k : Int, 0 ≤ k → k < mf S 29 → ma S 31 k = 1 → ma S 39 k < mf S 30
theorem DS_of {S : MS} {c : Int → Bool} {n : Int} (h : RP S) (hn : n ≤ mf S 29) (hc : ∀ k, c k = true → ma S 31 k = 1) : DS S c n := by
  intro k l a b a' b' x y e
  rcases Int.lt_or_lt_of_ne e with q | q
  · have := h.1 k l a q (by omega) (hc k x) (hc l y); omega
  · have := h.1 l k a' q (by omega) (hc l y) (hc k x); omega
theorem cK_r {S : MS} {i p d k : Int} (h : cK S i p d k = true) : ma S 31 k = 1 ∧ ¬ ma S 42 k = 0 ∧ ma S 34 k = i ∧ ma S 32 k = p ∧ ma S 37 k = d := by
  unfold cK at h
  simp only [Bool.and_eq_true, decide_eq_true_eq] at h
  exact ⟨h.1.1.1.1, h.1.1.1.2, h.1.1.2, h.1.2, h.2⟩
theorem cO_r {S : MS} {i p d k : Int} (h : cO S i p d k = true) : ma S 31 k = 1 ∧ ma S 34 k = i ∧ ma S 32 k = p ∧ ma S 37 k = d := by
  unfold cO at h
  simp only [Bool.and_eq_true, decide_eq_true_eq] at h
  exact ⟨h.1.1.1, h.1.1.2, h.1.2, h.2⟩
theorem cA_1 {S : MS} {i p d b : Int} {all : Bool} {k : Int} (h : cA S i p d b all k = true) : ma S 31 k = 1 := by
  unfold cA at h
  simp only [Bool.and_eq_true, decide_eq_true_eq] at h
  exact h.1.1.1.1.1
theorem nat_n {t : Int} {S : MS} (h : WR t S) : ((mf S 29).toNat : Int) = mf S 29 := by have := h.nn; omega
theorem kept_is {t : Int} {S : MS} (h : WR t S) (hr : RP S) (i p d : Int) : isB S (cK S i p d) (mf S 29) (kept S i p d) := by
  have := best_is (S := S) (c := cK S i p d) (mf S 29).toNat (DS_of hr (by rw [nat_n h]; exact Int.le_refl _) (fun k hk => (cK_r hk).1))
  rw [nat_n h] at this; exact this
theorem own_is {t : Int} {S : MS} (h : WR t S) (hr : RP S) (i p d : Int) : isB S (cO S i p d) (mf S 29) (ownb S i p d) := by
  have := best_is (S := S) (c := cO S i p d) (mf S 29).toNat (DS_of hr (by rw [nat_n h]; exact Int.le_refl _) (fun k hk => (cO_r hk).1))
  rw [nat_n h] at this; exact this
theorem cA_is {t : Int} {S : MS} (h : WR t S) (hr : RP S) (i p d b : Int) (all : Bool) : isB S (cA S i p d b all) (mf S 29) (bestTo S (cA S i p d b all) (mf S 29).toNat) := by
  have := best_is (S := S) (c := cA S i p d b all) (mf S 29).toNat (DS_of hr (by rw [nat_n h]; exact Int.le_refl _) (fun k hk => cA_1 hk))
  rw [nat_n h] at this; exact this
theorem ans_two {t : Int} {S : MS} (h : WR t S) (hr : RP S) (i p d b : Int) :
    bestTo S (cA S i p d b true) (mf S 29).toNat = two S (ownb S i p d) (ownb S i p (-1)) (standOf S b d) ∧ bestTo S (cA S i p d b false) (mf S 29).toNat = two S (kept S i p d) (kept S i p (-1)) (standOf S b d) := by
  refine ⟨isB_one (cA_is h hr i p d b true) (best_two (DS_of hr (Int.le_refl _) (fun k hk => cA_1 hk)) (fun k => ?_) (own_is h hr i p d) (own_is h hr i p (-1))), isB_one (cA_is h hr i p d b false) (best_two (DS_of hr (Int.le_refl _) (fun k hk => cA_1 hk)) (fun k => ?_) (kept_is h hr i p d) (kept_is h hr i p (-1)))⟩
  · unfold cA cO
    cases decide (ma S 31 k = 1) <;> cases decide (ma S 34 k = i) <;> cases decide (ma S 32 k = p) <;> cases decide (ma S 37 k = d) <;> cases decide (ma S 37 k = -1) <;> cases decide (standOf S b d ≤ ma S 36 k) <;> rfl
  · unfold cA cK
    cases decide (ma S 31 k = 1) <;> cases decide (ma S 34 k = i) <;> cases decide (ma S 32 k = p) <;> cases decide (ma S 37 k = d) <;> cases decide (ma S 37 k = -1) <;> cases decide (standOf S b d ≤ ma S 36 k) <;> cases decide (¬ ma S 42 k = 0) <;> rfl
section C3
variable {sv : Nat} {G : GM} {S : MS} {m : QM} {t : Int}
def RN (S : MS) (B : Int) : Prop := B = -1 ∨ (0 ≤ B ∧ B < mf S 29 ∧ ma S 31 B = 1)
theorem isB_RN {c : Int → Bool} {b : Int} (h : isB S c (mf S 29) b) (hc : ∀ k, c k = true → ma S 31 k = 1) : RN S b := by
  rcases h with ⟨e, _⟩ | ⟨b0, b1, bc, _⟩
  · exact Or.inl e
  · exact Or.inr ⟨b0, b1, hc b bc⟩
theorem c_newer {k f : Int} (h : CR sv G S m) (hw : WR t S) (h0 : 0 ≤ k) (h1 : k < mf S 29) (hk : ma S 31 k = 1) (hf : RN S f) : F_X1_isNewerThan (ag G k) (oad G f) m = some (.ok (b2i (later S k f)), m) := by
  have hg := h.mg k h0 h1
  have hx := hw.ms h0 h1
  rcases hf with e | ⟨f0, f1, fr⟩
  · subst e; rfl
  · have hG := h.mg f f0 f1
    have hy := hw.ms f0 f1
    have hn := hw.nn
    have eo : oad G f = some (ag G f) := if_neg (by omega)
    rw [eo]
    unfold F_X1_isNewerThan later
    simp only [xb_xp, xb_as]
    rw [xb_ok (xif_or (b := decide (¬ ma S 36 k = ma S 36 f)) (fun _ => by rw [yg4 hg, ygv hg, yg4 hG, ygv hG, xp_ap, d_ne (by omega) (by omega) (by omega) (by omega)]))]
    rw [show decide (some (ag G f) = none) = false from rfl, Bool.false_or]
    by_cases e : ma S 36 k = ma S 36 f
    · rw [decide_eq_false (fun q => q e), if_neg (by decide), yg9 hg hk, yg9 hG fr, xz_ok, d_lt (by omega) (by omega) (by omega) (by omega)]
      rw [decide_eq_false (show ¬ f = -1 by omega), decide_eq_false (show ¬ ma S 36 f < ma S 36 k by omega), decide_eq_true e]; rfl
    · rw [decide_eq_true e, if_pos rfl]
      rw [xb_ok (xif_or (b := decide (ma S 36 f < ma S 36 k)) (fun _ => by rw [yg4 hg, ygv hg, yg4 hG, ygv hG, xp_ap, d_lt (by omega) (by omega) (by omega) (by omega)]))]
      rw [xz_ok, decide_eq_false (show ¬ f = -1 by omega), decide_eq_false e]
      cases decide (ma S 36 f < ma S 36 k) <;> rfl
theorem oad_some {B : Int} (h : B ≠ -1) : oad G B = some (ag G B) := if_neg h
theorem oad_dec (B : Int) : decide (¬ oad G B = none) = decide (B ≠ -1) := by
  unfold oad
  by_cases e : B = -1
  · rw [if_pos e, decide_eq_false (fun q => q rfl), decide_eq_false (fun q => q e)]
  · rw [if_neg e, decide_eq_true (by simp), decide_eq_true e]
theorem oad_dec0 (B : Int) : decide (oad G B = none) = decide (B = -1) := by
  unfold oad
  by_cases e : B = -1
  · rw [if_pos e, decide_eq_true rfl, decide_eq_true e]
  · rw [if_neg e, decide_eq_false (by simp), decide_eq_false e]
theorem ite_xp {α : Type} (c : Prop) [Decidable c] (a b : α) : (if c then xp a else xp b) = xp (if c then a else b) := by by_cases h : c <;> simp only [h, if_true, if_false]
theorem oad_ite (c : Prop) [Decidable c] (a b : Int) : (if c then oad G a else oad G b) = oad G (if c then a else b) := by by_cases h : c <;> simp only [h, if_true, if_false]
theorem oad_ifn (c : Prop) [Decidable c] (a : Int) : (if c then xp (oad G a) else xp none : QX (Option Nat)) = xp (oad G (if c then a else -1)) := by by_cases h : c <;> simp only [h, if_true, if_false] <;> rfl
theorem c_answerBy {B1 B2 s : Int} (h : CR sv G S m) (hw : WR t S) (h1 : RN S B1) (h2 : RN S B2) (s0 : 0 ≤ s) (s1 : s ≤ 3000) : F_X1_answerBy (oad G B1) (oad G B2) (I s) m = some (.ok (I (if two S B1 B2 s = -1 then 0 else ma S 38 (two S B1 B2 s))), m) := by
  have hn := hw.nn
  unfold F_X1_answerBy
  simp only [xb_xp, xb_as, oad_dec]
  rw [xb_ok (xif_and (b := decide (s ≤ ma S 36 B1)) (fun q => by
    have q : B1 ≠ -1 := of_decide_eq_true q
    rcases h1 with e | ⟨b0, b1, b2⟩
    · exact absurd e q
    · have hx := hw.ms b0 b1
      rw [oad_some q, yg4 (h.mg B1 b0 b1), ygv (h.mg B1 b0 b1), xp_ap, d_le (by omega) (by omega) (by omega) (by omega)]))]
  rw [oad_ifn, xb_xp]
  rw [show (if (decide (B1 ≠ -1) && decide (s ≤ ma S 36 B1)) = true then B1 else -1) = (if B1 ≠ -1 ∧ s ≤ ma S 36 B1 then B1 else -1) from by
    simp only [Bool.and_eq_true, decide_eq_true_eq]]
  have hr : two S B1 B2 s = if B2 ≠ -1 ∧ s ≤ ma S 36 B2 ∧ later S B2 (if B1 ≠ -1 ∧ s ≤ ma S 36 B1 then B1 else -1) = true then B2 else (if B1 ≠ -1 ∧ s ≤ ma S 36 B1 then B1 else -1) := rfl
  rw [hr]
  have ht : RN S (if B1 ≠ -1 ∧ s ≤ ma S 36 B1 then B1 else -1) := by
    split
    · exact h1
    · exact Or.inl rfl
  generalize (if B1 ≠ -1 ∧ s ≤ ma S 36 B1 then B1 else -1) = T at ht ⊢
  rw [xb_ok (xif_and (b := decide (s ≤ ma S 36 B2)) (fun q => by
    have q : B2 ≠ -1 := of_decide_eq_true q
    rcases h2 with e | ⟨b0, b1, b2⟩
    · exact absurd e q
    · have hx := hw.ms b0 b1
      rw [oad_some q, yg4 (h.mg B2 b0 b1), ygv (h.mg B2 b0 b1), xp_ap, d_le (by omega) (by omega) (by omega) (by omega)]))]
  rw [xb_ok (xif_and (b := later S B2 T) (fun q => by
    rw [Bool.and_eq_true] at q
    have q : B2 ≠ -1 := of_decide_eq_true q.1
    rcases h2 with e | ⟨b0, b1, b2⟩
    · exact absurd e q
    · rw [oad_some q, og_b (h.mg B2 b0 b1), xb_ok (c_newer h hw b0 b1 b2 ht), xp_ap, b2ne]))]
  rw [ite_xp, oad_ite, xb_xp]
  rw [show (if (decide (B2 ≠ -1) && decide (s ≤ ma S 36 B2) && later S B2 T) = true then B2 else T) = (if B2 ≠ -1 ∧ s ≤ ma S 36 B2 ∧ later S B2 T = true then B2 else T) from by
    simp only [Bool.and_eq_true, decide_eq_true_eq, and_assoc]]
  have hu : RN S (if B2 ≠ -1 ∧ s ≤ ma S 36 B2 ∧ later S B2 T = true then B2 else T) := by
    split
    · exact h2
    · exact ht
  generalize (if B2 ≠ -1 ∧ s ≤ ma S 36 B2 ∧ later S B2 T = true then B2 else T) = U at hu ⊢
  rw [oad_dec0]
  rcases hu with e | ⟨b0, b1, b2⟩
  · rw [decide_eq_true e, if_pos rfl, if_pos e]; rfl
  · rw [decide_eq_false (by omega), if_neg (by decide), if_neg (by omega), oad_some (by omega), x_gi rfl (h.mg U b0 b1).ty ((h.mg U b0 b1).f7 b2)]
theorem c_slot {p d : Int} : F_X3_slotOf (I p) (I d) = xp (I (61 * p + d + 1)) := by
  unfold F_X3_slotOf
  simp only [xb_xp, gl61, glm1, I_mul, I_add, I_sub]
  rw [show p * 61 + d - -1 = 61 * p + d + 1 by omega]
theorem c_kept6 {i p d : Int} (h : CR sv G S m) (hi : 0 ≤ i) (hi' : i < mf S 3) (hp : 0 ≤ p) (hp' : p < 5) (h0 : -1 ≤ d) (h1 : d < 60) : F_X3_keptFor (am G i + 6) (I p) (I d) m = some (.ok (oad G (kept S i p d)), m) := by
  have hm := h.mt i hi hi'
  unfold F_X3_keptFor
  simp only [xb_xp, xb_as, c_slot]
  rw [xb_ok (xif_or (b := decide ((305 : Int) ≤ 61 * p + d + 1)) (fun _ => by rw [yk6 hm, xb_ok (x_lenr hm.t7 (by decide)), xp_ap, show ((305 : Nat) : Int) = 305 from rfl, d_le (by omega) (by omega) (by omega) (by omega)]))]
  rw [gl0, d_lt (by omega) (by omega) (by omega) (by omega), decide_eq_false (by omega), decide_eq_false (by omega), if_neg (by decide), yk6 hm]
  exact x_ar hm.t7 (by decide) (by omega) (by omega) (hm.kn p d hp hp' h0 h1)
theorem c_kept8 {i p d : Int} (h : CR sv G S m) (hi : 0 ≤ i) (hi' : i < mf S 3) (hp : 0 ≤ p) (hp' : p < 5) (h0 : -1 ≤ d) (h1 : d < 60) : F_X3_keptFor (am G i + 8) (I p) (I d) m = some (.ok (oad G (ownb S i p d)), m) := by
  have hm := h.mt i hi hi'
  unfold F_X3_keptFor
  simp only [xb_xp, xb_as, c_slot]
  rw [xb_ok (xif_or (b := decide ((305 : Int) ≤ 61 * p + d + 1)) (fun _ => by rw [yk8 hm, xb_ok (x_lenr hm.t9 (by decide)), xp_ap, show ((305 : Nat) : Int) = 305 from rfl, d_le (by omega) (by omega) (by omega) (by omega)]))]
  rw [gl0, d_lt (by omega) (by omega) (by omega) (by omega), decide_eq_false (by omega), decide_eq_false (by omega), if_neg (by decide), yk8 hm]
  exact x_ar hm.t9 (by decide) (by omega) (by omega) (hm.ow p d hp hp' h0 h1)
theorem c_ansKnown {i p d : Int} (h : CR sv G S m) (hw : WR t S) (hr : RP S) (hi : 0 ≤ i) (hi' : i < mf S 3) (hp : 0 ≤ p) (hp' : p < 5) (h0 : 0 ≤ d) (h1 : d < 60) : F_X0_answerAsKnown (am G i) (I p) (I d) m = some (.ok (I (answers S i p d (ma S 5 i) false)), m) := by
  have hm := h.mt i hi hi'
  have hx := hw.mt hi hi'
  have hd := hw.dl hx.2.1.1 hx.2.1.2 h0 h1
  have hn := hw.nn
  unfold F_X0_answerAsKnown F_X3_answerFor answers
  simp only [xb_xp, xb_as]
  rw [ym5 hm, ym2 hm, ov_b hm.now, xb_ok (c_standOf hm.now h0 h1), ok6 hm, ok6_b hm, xb_ok (c_kept6 h hi hi' hp hp' (by omega) h1), glm1, ok6_b hm, xb_ok (c_kept6 h hi hi' hp hp' (by omega) (by omega)), (ans_two hw hr i p d _).2]
  exact c_answerBy h hw (isB_RN (kept_is hw hr i p d) (fun k hk => (cK_r hk).1)) (isB_RN (kept_is hw hr i p (-1)) (fun k hk => (cK_r hk).1)) (by show 0 ≤ ma S 24 (60 * ma S 5 i + d) / 2048; omega) (by show ma S 24 (60 * ma S 5 i + d) / 2048 ≤ 3000; omega)
theorem c_ansFor8 {i p d s : Int} {v : Int} (h : CR sv G S m) (hw : WR t S) (hr : RP S) (hi : 0 ≤ i) (hi' : i < mf S 3) (hp : 0 ≤ p) (hp' : p < 5) (h0 : 0 ≤ d) (h1 : d < 60) (hs : s = standOf S v d) (s0 : 0 ≤ s) (s1 : s ≤ 3000) : F_X3_answerFor (am G i + 8) (I p) (I d) (I s) m = some (.ok (I (answers S i p d v true)), m) := by
  have hm := h.mt i hi hi'
  unfold F_X3_answerFor answers
  simp only [xb_xp, xb_as]
  rw [ok8_b hm, xb_ok (c_kept8 h hi hi' hp hp' (by omega) h1), glm1, ok8_b hm, xb_ok (c_kept8 h hi hi' hp hp' (by omega) (by omega)), (ans_two hw hr i p d _).1, ← hs]
  exact c_answerBy h hw (isB_RN (own_is hw hr i p d) (fun k hk => (cO_r hk).1)) (isB_RN (own_is hw hr i p (-1)) (fun k hk => (cO_r hk).1)) s0 s1
theorem c_ansOwn {i p d : Int} (h : CR sv G S m) (hw : WR t S) (hr : RP S) (hi : 0 ≤ i) (hi' : i < mf S 3) (hp : 0 ≤ p) (hp' : p < 5) (h0 : 0 ≤ d) (h1 : d < 60) (hh : isHere S p i = true) : F_X0_answerAsOwn (am G i) (I p) (some (vH G S p i)) (I d) m = some (.ok (I (ownOf S p i d)), m) := by
  have hm := h.mt i hi hi'
  have hx := hw.mt hi hi'
  have hv := here_ver hw hp hp' hi hi' hh
  obtain ⟨e1, hvs⟩ := vO_v h hp hp' hi hi' (by omega)
  have hd := hw.dl hv.1 hv.2 h0 h1
  have hn := hw.nn
  unfold F_X0_answerAsOwn ownOf
  simp only [xb_xp, xb_as]
  rw [ym1 hm, d_eq (by omega) (by omega) (by omega) (by omega)]
  by_cases c : ma S 4 i = p
  · rw [decide_eq_true c.symm, if_pos rfl, if_pos c, xp_ap, gl1]
  · rw [decide_eq_false (fun q => c q.symm), if_neg (by decide), if_neg c, ym6 hm, ov_b hvs, xb_ok (c_standOf hvs h0 h1), ok8 hm]
    have ev : verOf S p i = ma S 25 (8 * p + i) := if_neg c
    rw [ev] at hd ⊢
    exact c_ansFor8 (v := ma S 25 (8 * p + i)) (s := ma S 24 (60 * ma S 25 (8 * p + i) + d) / 2048) h hw hr hi hi' hp hp' h0 h1 rfl (by omega) (by omega)
theorem c_rankBy {i p d : Int} (h : CR sv G S m) (hw : WR t S) (hr : RP S) (hi : 0 ≤ i) (hi' : i < mf S 3) (hp : 0 ≤ p) (hp' : p < 5) (h0 : 0 ≤ d) (h1 : d < 60) (hh : isHere S p i = true) : F_X0_rankByDate (am G i) (I p) (some (vH G S p i)) (I d) m = some (.ok (I (rankFor S p i d)), m) := by
  have hm := h.mt i hi hi'
  have hx := hw.mt hi hi'
  have hv := here_ver hw hp hp' hi hi' hh
  obtain ⟨e1, hvs⟩ := vO_v h hp hp' hi hi' (by omega)
  have hd := hw.dl hv.1 hv.2 h0 h1
  have hn := hw.nn
  unfold F_X0_rankByDate rankFor ownOf
  simp only [xb_xp, xb_as]
  rw [ym1 hm, d_eq (by omega) (by omega) (by omega) (by omega)]
  by_cases c : ma S 4 i = p
  · rw [decide_eq_true c.symm, if_pos rfl, if_pos c, xp_ap, gl2]; rfl
  · rw [decide_eq_false (fun q => c q.symm), if_neg (by decide), if_neg c, ym6 hm, ov_b hvs, xb_ok (c_standOf hvs h0 h1), ok8_b hm]
    have ev : verOf S p i = ma S 25 (8 * p + i) := if_neg c
    rw [ev] at hd ⊢
    rw [xb_ok (c_ansFor8 (v := ma S 25 (8 * p + i)) (s := ma S 24 (60 * ma S 25 (8 * p + i) + d) / 2048) h hw hr hi hi' hp hp' h0 h1 rfl (by omega) (by omega))]
    have ha := answers_r (i := i) (p := p) (d := d) (b := ma S 25 (8 * p + i)) (all := true) hw
    generalize answers S i p d (ma S 25 (8 * p + i)) true = w at ha ⊢
    rw [gl1, gl2, gl0, d_eq (by omega) (by omega) (by omega) (by omega), d_eq (by omega) (by omega) (by omega) (by omega)]
    unfold rkOf
    by_cases e1 : w = 1
    · rw [decide_eq_true e1, if_pos rfl, if_pos e1]; rfl
    · rw [decide_eq_false e1, if_neg (by decide), if_neg e1]
      by_cases e2 : w = 2
      · rw [decide_eq_true e2, if_pos rfl, if_pos e2]; rfl
      · rw [decide_eq_false e2, if_neg (by decide), if_neg e2]; rfl
end C3
