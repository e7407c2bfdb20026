def dfold (S : MS) (v : Int) : Nat → Int × Int64
  | 0 => (0, ml S 20 v)
  | j + 1 => if ofRule S v j = true ∧ (dfold S v j).1 < ma S 16 v then ((dfold S v j).1 + 1, if hl (ml S 21 v) j = true then (dfold S v j).2 else (dfold S v j).2 ||| ((1 : Int64) <<< ((I j).toInt64 &&& 63))) else dfold S v j
def dts (S : MS) (v : Int) : Int64 := (dfold S v 60).2
