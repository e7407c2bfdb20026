def gI (o : Int) : Bool := decide (-12 ≤ o ∧ o ≤ 12)
def gSu (a b : Int) : Bool := decide (a = -1) || (decide (0 ≤ a ∧ a ≤ 59) && decide (a + 1 ≤ b ∧ b ≤ 60))
def gH2 (w : Int) : Bool := decide (-100 ≤ w ∧ w ≤ 2000)
def KW (k : Int) : List Int := if k = 0 then [114, 101, 113, 117, 101, 115, 116] else if k = 1 then [114, 101, 112, 108, 121] else [112, 114, 111, 112, 111, 115, 97, 108]
def AW (a : Int) : List Int := if a = 1 then [97, 99, 99, 101, 112, 116, 101, 100] else if a = 2 then [116, 101, 110, 116, 97, 116, 105, 118, 101] else if a = 3 then [100, 101, 99, 108, 105, 110, 101, 100] else [100, 101, 108, 101, 103, 97, 116, 101, 100]
def dg (v : Int) : List Int := if v < 10 then [48 + v] else if v < 100 then [48 + v / 10, 48 + v % 10] else [48 + v / 100, 48 + v / 10 % 10, 48 + v % 10]
def tailL (S : MS) (k : Int) : List Int := if ma S 31 k = 1 then 32 :: AW (ma S 38 k) else []
def lineL (S : MS) (k : Int) : List Int := KW (ma S 31 k) ++ ([32, 97 + ma S 32 k, 97 + ma S 33 k, 32, 48 + ma S 34 k, 32] ++ (dg (ma S 36 k) ++ tailL S k))
theorem KW_len (k : Int) : 5 ≤ (KW k).length ∧ (KW k).length ≤ 8 := by
  unfold KW; split
  · exact ⟨by decide, by decide⟩
  · split
    · exact ⟨by decide, by decide⟩
    · exact ⟨by decide, by decide⟩
theorem AW_len (k : Int) : 8 ≤ (AW k).length ∧ (AW k).length ≤ 9 := by
  unfold AW; split
  · exact ⟨by decide, by decide⟩
  · split
    · exact ⟨by decide, by decide⟩
    · split
      · exact ⟨by decide, by decide⟩
      · exact ⟨by decide, by decide⟩
theorem dg_len (v : Int) : 1 ≤ (dg v).length ∧ (dg v).length ≤ 3 := by
  unfold dg; split
  · exact ⟨by show 1 ≤ 1; decide, by show 1 ≤ 3; decide⟩
  · split
    · exact ⟨by show 1 ≤ 2; decide, by show 2 ≤ 3; decide⟩
    · exact ⟨by show 1 ≤ 3; decide, by show 3 ≤ 3; decide⟩
theorem lineL_len (S : MS) (k : Int) : ((lineL S k).length : Int) = (KW (ma S 31 k)).length + 6 + (dg (ma S 36 k)).length + (tailL S k).length := by
  unfold lineL
  simp only [List.length_append, List.length_cons, List.length_nil]
  omega
theorem ch_dec : ∀ c, c < 256 → ((I (c : Nat)).toUInt32 % 65536).toInt32 = I (c : Nat) := by decide +kernel
theorem ch_I {c : Int} (h0 : 0 ≤ c) (h1 : c < 256) : ((I c).toUInt32 % 65536).toInt32 = I c := by
  obtain ⟨a, rfl⟩ := Int.eq_ofNat_of_zero_le h0
  exact ch_dec a (by omega)
