def dayC (S : MS) (p i y d : Int) : Bool := hl (datOf S p i) d && decide (rankFor S p i d = 2) && decide (48 + begOf S (verOf S p i) d ≤ y ∧ y < 48 + begOf S (verOf S p i) d + ma S 13 (verOf S p i))
def anyTo (c : Int → Bool) : Nat → Bool
  | 0 => false
  | j + 1 => anyTo c j || c j
def ppl (S : MS) (people y k : Int) : Bool := hb people (k / 8) && decide (k % 8 < mf S 3) && anyTo (dayC S (k / 8) (k % 8) y) 60
def bsy (S : MS) (people y : Int) : Bool := anyTo (ppl S people y) 40
