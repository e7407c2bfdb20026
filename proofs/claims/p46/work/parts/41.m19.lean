def isFF (B : Int → Bool) (from_ hours r : Int) : Prop := from_ ≤ r ∧ (∀ x, r ≤ x → x < r + hours → B (x + 48) = false) ∧ ∀ w, from_ ≤ w → w < r → ∃ x, w ≤ x ∧ x < w + hours ∧ B (x + 48) = true
theorem isFF_one {B : Int → Bool} {f h r r' : Int} (a : isFF B f h r) (b : isFF B f h r') : r = r' := by
  obtain ⟨a1, a2, a3⟩ := a
  obtain ⟨b1, b2, b3⟩ := b
  rcases Int.lt_trichotomy r r' with q | q | q
  · obtain ⟨x, x1, x2, x3⟩ := b3 r a1 q
    rw [a2 x x1 x2] at x3; exact absurd x3 (by decide)
  · exact q
  · obtain ⟨x, x1, x2, x3⟩ := a3 r' b1 q
    rw [b2 x x1 x2] at x3; exact absurd x3 (by decide)
def scanR (B : Int → Bool) (f : Int) : Nat → Int × Int
  | 0 => (0, f)
  | j + 1 => if B (f + 48 + j) = true then (0, f + j + 1) else ((scanR B f j).1 + 1, (scanR B f j).2)
theorem scan_step (B : Int → Bool) (f : Int) (j : Nat) : scanR B f (j + 1) = if B (f + 48 + j) = true then (0, f + j + 1) else ((scanR B f j).1 + 1, (scanR B f j).2) := rfl
theorem scan_inv (B : Int → Bool) (f : Int) : ∀ j : Nat, (scanR B f j).1 = f + j - (scanR B f j).2 ∧ f ≤ (scanR B f j).2 ∧ (scanR B f j).2 ≤ f + j ∧ ∀ x, (scanR B f j).2 ≤ x → x < f + j → B (x + 48) = false := by
  intro j
  induction j with
  | zero => exact ⟨show (0 : Int) = f + 0 - f by omega, Int.le_refl _, show f ≤ f + 0 by omega, fun x (h1 : f ≤ x) (h2 : x < f + ((0 : Nat) : Int)) => by omega⟩
  | succ j ih =>
    obtain ⟨i1, i2, i3, i4⟩ := ih
    unfold scanR
    by_cases c : B (f + 48 + j) = true
    · rw [if_pos c]
      refine ⟨by simp only; omega, by simp only; omega, by simp only; omega, fun x h1 h2 => ?_⟩
      simp only at h1
      omega
    · rw [if_neg c]
      refine ⟨by simp only; omega, i2, by simp only; omega, fun x h1 h2 => ?_⟩
      by_cases e : x = f + j
      · rw [e, show f + (j : Int) + 48 = f + 48 + j by omega]; exact Bool.eq_false_iff.mpr c
      · exact i4 x h1 (by omega)
theorem scan_hi {B : Int → Bool} {f M : Int} (hB : ∀ x, M ≤ x → B (x + 48) = false) (hf : f ≤ M) : ∀ j : Nat, (scanR B f j).2 ≤ M := by
  intro j
  induction j with
  | zero => exact hf
  | succ j ih =>
    unfold scanR
    by_cases c : B (f + 48 + j) = true
    · rw [if_pos c]
      rcases Int.lt_or_le (f + j) M with q | q
      · simp only; omega
      · have := hB (f + j) q
        rw [show f + (j : Int) + 48 = f + 48 + j by omega] at this
        rw [this] at c; exact absurd c (by decide)
    · rw [if_neg c]; exact ih
theorem scan_min {B : Int → Bool} {f h : Int} (h0 : 1 ≤ h) : ∀ j : Nat, (∀ k, k < j → (scanR B f k).1 < h) → ∀ w, f ≤ w → w < (scanR B f j).2 → ∃ x, w ≤ x ∧ x < w + h ∧ B (x + 48) = true := by
  intro j
  induction j with
  | zero => intro _ w (h1 : f ≤ w) (h2 : w < f); omega
  | succ j ih =>
    intro hk w h1 h2
    have iv := scan_inv B f j
    have ihj := ih (fun k hk' => hk k (by omega)) w h1
    unfold scanR at h2
    by_cases c : B (f + 48 + j) = true
    · rw [if_pos c] at h2
      simp only at h2
      by_cases d : w < (scanR B f j).2
      · exact ihj d
      · have := hk j (by omega)
        exact ⟨f + j, by omega, by omega, by rw [show f + (j : Int) + 48 = f + 48 + j by omega]; exact c⟩
    · rw [if_neg c] at h2
      exact ihj h2
theorem anyTo_iff {c : Int → Bool} : ∀ n : Nat, anyTo c n = true ↔ ∃ k : Nat, k < n ∧ c k = true := by
  intro n
  induction n with
  | zero => exact ⟨fun h => absurd h (show ¬ false = true by decide), fun ⟨k, h, _⟩ => absurd h (Nat.not_lt_zero _)⟩
  | succ n ih =>
    unfold anyTo
    rw [Bool.or_eq_true, ih]
    constructor
    · rintro (⟨k, h1, h2⟩ | h)
      · exact ⟨k, by omega, h2⟩
      · exact ⟨n, by omega, h⟩
    · rintro ⟨k, h1, h2⟩
      by_cases e : k = n
      · subst e; exact Or.inr h2
      · exact Or.inl ⟨k, by omega, h2⟩
theorem bsy_hi {t people : Int} {S : MS} (h : WR t S) {x : Int} (hx : 1475 ≤ x) : bsy S people (x + 48) = false := by
  have hn := h.nn
  cases e : bsy S people (x + 48)
  · rfl
  · unfold bsy at e
    rw [anyTo_iff] at e
    obtain ⟨k, k1, k2⟩ := e
    unfold ppl at k2
    simp only [Bool.and_eq_true] at k2
    obtain ⟨⟨-, k3⟩, k4⟩ := k2
    have k3 : (k : Int) % 8 < mf S 3 := of_decide_eq_true k3
    rw [anyTo_iff] at k4
    obtain ⟨d, d1, d2⟩ := k4
    unfold dayC at d2
    simp only [Bool.and_eq_true] at d2
    have hh := dat_here (by omega) (by omega) d2.1.1
    have hv := here_ver h (show 0 ≤ (k : Int) / 8 by omega) (by omega) (show 0 ≤ (k : Int) % 8 by omega) k3 hh
    have hvs := h.vs hv.1 hv.2
    have hb := begOf_r (d := (d : Int)) h hv.1 hv.2 (by omega) (by omega)
    have d3 := of_decide_eq_true d2.2
    omega
def gF (people from_ hours : Int) : Bool := decide (1 ≤ people ∧ people ≤ 31) && decide (-48 ≤ from_ ∧ from_ ≤ 1500) && decide (1 ≤ hours ∧ hours ≤ 48)
