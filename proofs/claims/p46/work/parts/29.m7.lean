theorem gc0 {a b c : Bool} (h : (a && b && c) = true) : gc a b c = 0 := by
  cases a <;> cases b <;> cases c <;> first | rfl | exact absurd h (by decide)
def rdAll (rd : Int → Int) (s : Int) : Int → Int := fun d => if d < 60 then rd d % 2048 + 2048 * s else rd d
theorem OKR_upd {t : Int} {ri : Nat → Int} {rd : Int → Int} {K : Nat} {x : Int} (h : OKR t ri rd) (h1 : K = 11 → 0 ≤ x ∧ x < 60) (h2 : K = 12 → 0 ≤ x ∧ x < 24) (h3 : K = 13 → 1 ≤ x ∧ x ≤ 23) (h4 : K = 14 → 1 ≤ x ∧ x ≤ 28) (h5 : K = 15 → 1 ≤ x ∧ x ≤ 127) (h6 : K = 16 → 1 ≤ x ∧ x ≤ 10) (h7 : K = 17 → 0 ≤ x ∧ x < 32) (h8 : K = 18 → 0 ≤ x ∧ x < 32) (h9 : K = 19 → x = 0 ∨ x = 1) (h10 : 11 ≤ K) : OKR t (updi ri K x) rd := by
  unfold OKR updi at *
  obtain ⟨q1, q2, q3, q4, q5, q6, q7, q8, q9, q10, q11, q12⟩ := h
  refine ⟨by split <;> omega, by split <;> omega, by split <;> omega, by split <;> omega, by split <;> omega, by split <;> omega, by split <;> omega, by split <;> omega, by split <;> omega, by split <;> omega, by split <;> omega, q12⟩
theorem OKR_all {t : Int} {ri : Nat → Int} {rd : Int → Int} (h : OKR t ri rd) : OKR t ri (rdAll rd (ri 9)) := by
  unfold OKR rdAll at *
  obtain ⟨q1, q2, q3, q4, q5, q6, q7, q8, q9, q10, q11, q12⟩ := h
  refine ⟨q1, q2, q3, q4, q5, q6, q7, q8, q9, q10, q11, fun d g0 g1 => ?_⟩
  have := q12 d g0 g1
  split <;> omega
theorem OKR_d {t : Int} {ri : Nat → Int} {rd : Int → Int} {d x : Int} (h : OKR t ri rd) (hx : 0 ≤ x ∧ x < 1440) : OKR t ri (updd rd d (x + 2048 * ri 9)) := by
  unfold OKR updd at *
  obtain ⟨q1, q2, q3, q4, q5, q6, q7, q8, q9, q10, q11, q12⟩ := h
  refine ⟨q1, q2, q3, q4, q5, q6, q7, q8, q9, q10, q11, fun d g0 g1 => ?_⟩
  have := q12 d g0 g1
  split <;> omega
def VOK (t : Int) (S : MS) : Prop := WR t S ∧ t + 2 ≤ 600 ∧ FRV S ∧ ∀ i, 0 ≤ i → i < mf S 3 → toOf S i < 158
def gM (S : MS) (i : Int) : Bool := decide (0 ≤ i ∧ i < mf S 3)
def gH (S : MS) (i : Int) : Bool := decide ((0 ≤ i ∧ i < mf S 3) ∧ ma S 19 (ma S 5 i) = 0)
def gT (d c l : Int) : Bool := decide ((0 ≤ d ∧ d ≤ 59) ∧ (0 ≤ c ∧ c ≤ 23) ∧ (1 ≤ l ∧ l ≤ 23))
def sTime (S : MS) (i d c l : Int) : MS := sHold (XV S i (updi (updi (updi (rI S i) 11 d) 12 c) 13 l) (rL S i) (rdAll (rD S i) (rI S i 9))) i (toOf S i)
