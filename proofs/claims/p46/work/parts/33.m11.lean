theorem d_eq {a b : Int} (ha : -2147483648 ≤ a) (ha' : a < 2147483648) (hb : -2147483648 ≤ b) (hb' : b < 2147483648) : decide (I a = I b) = decide (a = b) := by simp only [I_inj ha ha' hb hb']
theorem d_ne {a b : Int} (ha : -2147483648 ≤ a) (ha' : a < 2147483648) (hb : -2147483648 ≤ b) (hb' : b < 2147483648) : decide (¬ I a = I b) = decide (¬ a = b) := by simp only [I_inj ha ha' hb hb']
theorem d_lt {a b : Int} (ha : -2147483648 ≤ a) (ha' : a < 2147483648) (hb : -2147483648 ≤ b) (hb' : b < 2147483648) : decide (I a < I b) = decide (a < b) := by simp only [I_lt ha ha' hb hb']
theorem d_le {a b : Int} (ha : -2147483648 ≤ a) (ha' : a < 2147483648) (hb : -2147483648 ≤ b) (hb' : b < 2147483648) : decide (I a ≤ I b) = decide (a ≤ b) := by simp only [I_le ha ha' hb hb']
theorem glm1 : (-1 : Int32) = I (-1) := by decide
def later (S : MS) (k f : Int) : Bool := decide (f = -1) || decide (ma S 36 f < ma S 36 k) || (decide (ma S 36 k = ma S 36 f) && decide (ma S 39 f < ma S 39 k))
def bestTo (S : MS) (c : Int → Bool) : Nat → Int
  | 0 => -1
  | j + 1 => if (c j && later S j (bestTo S c j)) = true then (j : Int) else bestTo S c j
theorem bestTo_r (S : MS) (c : Int → Bool) : ∀ j, bestTo S c j = -1 ∨ (0 ≤ bestTo S c j ∧ bestTo S c j < j ∧ c (bestTo S c j) = true) := by
  intro j
  induction j with
  | zero => exact Or.inl rfl
  | succ j ih =>
    unfold bestTo
    by_cases g : (c j && later S j (bestTo S c j)) = true
    · rw [if_pos g]
      rw [Bool.and_eq_true] at g
      exact Or.inr ⟨by omega, by omega, g.1⟩
    · rw [if_neg g]
      rcases ih with e | ⟨e1, e2, e3⟩
      · exact Or.inl e
      · exact Or.inr ⟨e1, by omega, e3⟩
def cK (S : MS) (i p d : Int) (k : Int) : Bool := decide (ma S 31 k = 1) && decide (¬ ma S 42 k = 0) && decide (ma S 34 k = i) && decide (ma S 32 k = p) && decide (ma S 37 k = d)
def kept (S : MS) (i p d : Int) : Int := bestTo S (cK S i p d) (mf S 29).toNat
def cA (S : MS) (i p d by_ : Int) (all : Bool) (k : Int) : Bool := decide (ma S 31 k = 1) && decide (ma S 34 k = i) && decide (ma S 32 k = p) && (decide (ma S 37 k = d) || decide (ma S 37 k = -1)) && (all || decide (¬ ma S 42 k = 0)) && decide (standOf S by_ d ≤ ma S 36 k)
def answers (S : MS) (i p d by_ : Int) (all : Bool) : Int := if bestTo S (cA S i p d by_ all) (mf S 29).toNat = -1 then 0 else ma S 38 (bestTo S (cA S i p d by_ all) (mf S 29).toNat)
def askStep (S : MS) (i set k : Int) : Int :=
  if (hb set k && decide (¬ kept S i k (-1) = -1) && decide (ma S 38 (kept S i k (-1)) = 4) && !hb (ma S 18 (ma S 5 i)) (ma S 40 (kept S i k (-1)))) = true then orb set (ma S 40 (kept S i k (-1))) else set
def askRow (S : MS) (i set : Int) : Nat → Int
  | 0 => set
  | j + 1 => askStep S i (askRow S i set j) j
def askAll (S : MS) (i set : Int) : Nat → Int
  | 0 => set
  | j + 1 => askRow S i (askAll S i set j) 5
def asked (S : MS) (i : Int) : Int := askAll S i (ma S 17 (ma S 5 i)) 5
theorem kept_r {t i p d : Int} {S : MS} (h : WR t S) : kept S i p d = -1 ∨ (0 ≤ kept S i p d ∧ kept S i p d < mf S 29 ∧ cK S i p d (kept S i p d) = true) := by
  have hn := h.nn
  have := bestTo_r S (cK S i p d) (mf S 29).toNat
  unfold kept
  rcases this with e | ⟨e1, e2, e3⟩
  · exact Or.inl e
  · exact Or.inr ⟨e1, by omega, e3⟩
theorem askStep_r {t i set k : Int} {S : MS} (h : WR t S) (h0 : 0 ≤ set) (h1 : set < 32) : 0 ≤ askStep S i set k ∧ askStep S i set k < 32 := by
  have hk := kept_r (i := i) (p := k) (d := -1) h
  unfold askStep
  split
  next g =>
    simp only [Bool.and_eq_true, decide_eq_true_eq] at g
    have hm := h.ms (k := kept S i k (-1)) (by omega) (by omega)
    exact (set_r h0 h1 (by omega) (by omega)).1
  next => exact ⟨h0, h1⟩
theorem askRow_r {t i set : Int} {S : MS} (h : WR t S) (h0 : 0 ≤ set) (h1 : set < 32) : ∀ j, 0 ≤ askRow S i set j ∧ askRow S i set j < 32 := by
  intro j
  induction j with
  | zero => exact ⟨h0, h1⟩
  | succ j ih => exact askStep_r h ih.1 ih.2
theorem askAll_r {t i set : Int} {S : MS} (h : WR t S) (h0 : 0 ≤ set) (h1 : set < 32) : ∀ j, 0 ≤ askAll S i set j ∧ askAll S i set j < 32 := by
  intro j
  induction j with
  | zero => exact ⟨h0, h1⟩
  | succ j ih => exact askRow_r h ih.1 ih.2 5
theorem hb_d (x p : Int) : decide ((I x >>> (I p &&& 31)) &&& (1 : Int32) = 1) = hb x p := rfl
theorem hb_d0 (x p : Int) : decide ((I x >>> (I p &&& 31)) &&& (1 : Int32) = 0) = !hb x p := by
  rw [gl0, gl1, gl31]
  simp only [hb_eq0]
  cases hb x p <;> rfl
