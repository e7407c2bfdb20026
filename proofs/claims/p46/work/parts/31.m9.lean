def sMove (S : MS) (i d c : Int) : MS := sHold (XV S i (rI S i) (updl (rL S i) 22 (rL S i 22 ||| bitL d)) (updd (rD S i) d (c + 2048 * rI S i 9))) i (toOf S i)
def gC (c : Int) : Bool := decide (0 ≤ c ∧ c ≤ 1439)
def sCancel (S : MS) (i : Int) : MS := sHold (XV S i (updi (rI S i) 19 1) (rL S i) (rD S i)) i (toOf S i)
def bitI (p : Int) : Int32 := I 1 <<< (I p &&& I 31)
def orb (x p : Int) : Int := (I x ||| bitI p).toInt
def anb (x p : Int) : Int := (I x &&& (bitI p ^^^ (-1))).toInt
theorem I_orb (x p : Int) : I x ||| bitI p = I (orb x p) := (I_toInt _).symm
theorem I_anb (x p : Int) : I x &&& (bitI p ^^^ (-1)) = I (anb x p) := (I_toInt _).symm
theorem set_dec : ∀ x, x < 32 → ∀ p, p < 5 → (0 ≤ orb (x : Nat) (p : Nat) ∧ orb (x : Nat) (p : Nat) < 32) ∧ (0 ≤ anb (x : Nat) (p : Nat) ∧ anb (x : Nat) (p : Nat) < 32) := by decide +kernel
theorem set_r {x p : Int} (h0 : 0 ≤ x) (h1 : x < 32) (h2 : 0 ≤ p) (h3 : p < 5) : (0 ≤ orb x p ∧ orb x p < 32) ∧ (0 ≤ anb x p ∧ anb x p < 32) := by
  obtain ⟨a, rfl⟩ := Int.eq_ofNat_of_zero_le h0
  obtain ⟨b, rfl⟩ := Int.eq_ofNat_of_zero_le h2
  exact set_dec a (by omega) b (by omega)
def rInv (S : MS) (i p : Int) (b : Bool) : Nat → Int := updi (updi (rI S i) 17 (if b then orb (rI S i 17) p else anb (rI S i 17) p)) 18 (if b then anb (rI S i 18) p else orb (rI S i 18) p)
def sInvite (S : MS) (i p : Int) (b : Bool) : MS := sHold (XV S i (rInv S i p b) (rL S i) (rD S i)) i (toOf S i)
def gP (p : Int) : Bool := decide (0 ≤ p ∧ p ≤ 4)
def gS (S : MS) (i p : Int) (b : Bool) : Bool := hb (if b then ma S 17 (ma S 5 i) else ma S 18 (ma S 5 i)) p
