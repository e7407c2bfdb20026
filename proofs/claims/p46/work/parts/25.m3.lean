theorem I_div {a b : Int} (ha : 0 ≤ a) (ha' : a < 2147483648) (hb : 0 < b) (hb' : b < 2147483648) : I a / I b = I (a / b) := by
  have h1 : 0 ≤ a / b := Int.ediv_nonneg ha (by omega)
  have h2 : a / b ≤ a := Int.ediv_le_self b ha
  apply Int32.toInt_inj.mp
  rw [Int32.toInt_div, toInt_I (by omega) ha', toInt_I (by omega) hb', toInt_I (by omega) (by omega), Int.tdiv_eq_ediv_of_nonneg ha]
  exact Int.bmod_eq_of_le (by omega) (by omega)
theorem e_rem {a b : Int} (ha : 0 ≤ a) (ha' : a < 2147483648) (hb : 0 < b) (hb' : b < 2147483648) : prem (I a) (I b) = pp (I (a % b)) := by
  funext S
  show (if I b = 0 then none else some (I a - I a / I b * I b, S)) = some (I (a % b), S)
  rw [if_neg (fun h => by rw [gl0, I_inj (by omega) (by omega) (by omega) (by omega)] at h; omega), I_div ha ha' hb hb', I_mul, I_sub, Int.emod_def, Int.mul_comm]
def verOf (S : MS) (p i : Int) : Int := if ma S 4 i = p then ma S 5 i else ma S 25 (8 * p + i)
def goalOf (S : MS) (v d : Int) : Int := ma S 24 (60 * v + d) % 2048
def standOf (S : MS) (v d : Int) : Int := ma S 24 (60 * v + d) / 2048
def ofRule (S : MS) (v d : Int) : Bool := decide (0 ≤ d - ma S 11 v ∧ (d - ma S 11 v) % ma S 14 v = 0 ∧ hb (ma S 15 v) (d % 7) = true)
def begOf (S : MS) (v d : Int) : Int := sCom S (ma S 10 v) (if hl (ml S 22 v) d = true then goalOf S v d else 24 * d + ma S 12 v)
def datOf (S : MS) (p i : Int) : Int64 := if isHere S p i = true then ml S 23 (verOf S p i) else 0
theorem here_ver {t p i : Int} {S : MS} (h : WR t S) (hp : 0 ≤ p) (hp' : p < 5) (hi : 0 ≤ i) (hi' : i < mf S 3) (hh : isHere S p i = true) : 0 ≤ verOf S p i ∧ verOf S p i < mf S 7 := by
  have hn := h.nn
  have hm := h.mt hi hi'
  have hc := h.cp hp hp' hi (by omega)
  unfold isHere at hh
  unfold verOf
  by_cases c : ma S 4 i = p
  · rw [if_pos c]; exact hm.2.1
  · rw [if_neg c] at hh ⊢
    have := of_decide_eq_true hh
    omega
