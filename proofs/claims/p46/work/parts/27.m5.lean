def toOf (S : MS) (i : Int) : Int := if ma S 8 (ma S 5 i) = 0 then ma S 5 i else mf S 7
def setv (S : MS) (v : Int) (ri : Nat → Int) (rl : Nat → Int64) (rd : Int → Int) : MS :=
  (fun J y => if (9 ≤ J ∧ J ≤ 19) ∧ y = v then ri J else if J = 24 ∧ 60 * v ≤ y ∧ y < 60 * v + 60 then rd (y - 60 * v) else ma S J y, fun J y => if (20 ≤ J ∧ J ≤ 22) ∧ y = v then rl J else ml S J y, S.2.2)
def updi (ri : Nat → Int) (K : Nat) (x : Int) : Nat → Int := fun J => if J = K then x else ri J
def updl (rl : Nat → Int64) (K : Nat) (x : Int64) : Nat → Int64 := fun J => if J = K then x else rl J
def updd (rd : Int → Int) (d x : Int) : Int → Int := fun e => if e = d then x else rd e
def rI (S : MS) (i : Int) : Nat → Int := fun J => if J = 9 then ma S 9 (ma S 5 i) + 1 else ma S J (ma S 5 i)
def rL (S : MS) (i : Int) : Nat → Int64 := fun J => ml S J (ma S 5 i)
def rD (S : MS) (i : Int) : Int → Int := fun d => ma S 24 (60 * ma S 5 i + d)
