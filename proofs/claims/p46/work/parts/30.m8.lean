def gD (d : Int) : Bool := decide (0 ≤ d ∧ d ≤ 59)
def gR (s w c : Int) : Bool := decide (1 ≤ s ∧ s ≤ 28) && decide (1 ≤ w ∧ w ≤ 127) && decide (1 ≤ c ∧ c ≤ 10)
def bitL (d : Int) : Int64 := (1 : Int64) <<< ((I d).toInt64 &&& 63)
def gN (S : MS) (i d : Int) : Bool := hl (ml S 23 (ma S 5 i)) d
def sRepeat (S : MS) (i s w c : Int) : MS := sHold (XV S i (updi (updi (updi (rI S i) 14 s) 15 w) 16 c) (rL S i) (rdAll (rD S i) (rI S i 9))) i (toOf S i)
def sDrop (S : MS) (i d : Int) : MS := sHold (XV S i (rI S i) (updl (updl (updl (rL S i) 21 (rL S i 21 ||| bitL d)) 20 (rL S i 20 &&& (bitL d ^^^ (-1)))) 22 (rL S i 22 &&& (bitL d ^^^ (-1)))) (rD S i)) i (toOf S i)
def sAdd (S : MS) (i d : Int) : MS := sHold (XV S i (rI S i) (updl (updl (rL S i) 20 (rL S i 20 ||| bitL d)) 21 (rL S i 21 &&& (bitL d ^^^ (-1)))) (updd (rD S i) d (rD S i d % 2048 + 2048 * rI S i 9))) i (toOf S i)
