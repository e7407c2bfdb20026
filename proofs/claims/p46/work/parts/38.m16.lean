theorem pm_eq {S : MS} {p i : Int} : (decide (0 ≤ p ∧ p ≤ 4) && gM S i) = gPM S p i := by
  unfold gPM gM
  by_cases a : 0 ≤ p ∧ p ≤ 4 <;> simp [a]
def gPD (S : MS) (p i d : Int) : Bool := gPM S p i && gD d && hl (datOf S p i) d
theorem gPD_here {t p i d : Int} {S : MS} (h : WR t S) (g : gPD S p i d = true) : ((0 ≤ p ∧ p < 5) ∧ 0 ≤ i ∧ i < mf S 3) ∧ (0 ≤ d ∧ d < 60) ∧ isHere S p i = true := by
  unfold gPD at g
  simp only [Bool.and_eq_true] at g
  have g1 := gPM_d g.1.1
  have g2 : 0 ≤ d ∧ d ≤ 59 := of_decide_eq_true g.1.2
  refine ⟨g1, by omega, ?_⟩
  have g3 := g.2
  unfold datOf at g3
  by_cases c : isHere S p i = true
  · exact c
  · rw [if_neg c] at g3
    exfalso
    unfold hl at g3
    have g3 := of_decide_eq_true g3
    obtain ⟨a, rfl⟩ := Int.eq_ofNat_of_zero_le g2.1
    exact (by decide +kernel : ∀ a, a < 60 → ¬ ((0 : Int64) >>> ((I ((a : Nat) : Int)).toInt64 &&& 63)) &&& 1 = 1) a (by omega) g3
def ownOf (S : MS) (p i d : Int) : Int := if ma S 4 i = p then 1 else answers S i p d (ma S 25 (8 * p + i)) true
theorem answers_r {t i p d b : Int} {all : Bool} {S : MS} (h : WR t S) : 0 ≤ answers S i p d b all ∧ answers S i p d b all ≤ 4 := by
  have hn := h.nn
  have hb := bestTo_r S (cA S i p d b all) (mf S 29).toNat
  unfold answers
  split
  · omega
  · have := h.ms (k := bestTo S (cA S i p d b all) (mf S 29).toNat) (by omega) (by omega)
    omega
def gND (S : MS) (p i d : Int) : Bool := gPM S p i && gD d && gN S i d
def ansOf (S : MS) (i p d : Int) : Int := if hb (asked S i) p = true then answers S i p d (ma S 5 i) false else -1
def allTo (c : Int → Bool) : Nat → Bool
  | 0 => true
  | j + 1 => allTo c j && c j
def agD (S : MS) (i p d : Int) : Bool := !hl (ml S 23 (ma S 5 i)) d || decide (answers S i p d (ma S 5 i) true = answers S i p d (ma S 5 i) false)
def agP (S : MS) (i set p : Int) : Bool := !hb set p || (decide (ma S 25 (8 * p + i) = ma S 5 i) && allTo (agD S i p) 60)
def agreesB (S : MS) (i : Int) : Bool := decide (ma S 19 (ma S 5 i) = 0) && allTo (agP S i (asked S i)) 5
