def I (z : Int) : Int32 := Int32.ofInt z
theorem I_toInt (x : Int32) : I x.toInt = x := Int32.ofInt_toInt x
theorem toInt_I {z : Int} (h0 : -2147483648 ≤ z) (h1 : z < 2147483648) : (I z).toInt = z := Int32.toInt_ofInt_of_le (by simpa using h0) (by simpa using h1)
theorem clamp_I {z : Int} (h0 : 0 ≤ z) (h1 : z < 2147483648) : (I z).toNatClampNeg = z.toNat := by
  show (I z).toInt.toNat = z.toNat
  rw [toInt_I (by omega) h1]
abbrev MS : Type := (Nat → Int → Int) × (Nat → Int → Int64) × (Nat → Int)
def ma (S : MS) : Nat → Int → Int := S.1
def ml (S : MS) : Nat → Int → Int64 := S.2.1
def mf (S : MS) : Nat → Int := S.2.2
abbrev PX (α : Type) : Type := MS → Option (α × MS)
def pp {α : Type} (a : α) : PX α := fun s => some (a, s)
def pb {α β : Type} (x : PX α) (f : α → PX β) : PX β := fun s => match x s with
  | none => none
  | some (a, s') => f a s'
def pl {σ : Type} : Nat → (σ → PX Bool) → (σ → PX σ) → σ → PX σ
  | 0, _, _, _ => fun _ => none
  | n + 1, c, b, s => pb (c s) fun v => if v then pb (b s) fun s' => pl n c b s' else pp s
def ral : List Nat := [1, 2, 3, 0, 4, 5, 6, 0, 7, 8, 9, 10, 11, 12, 13, 14, 15, 16, 17, 18, 19, 20, 21, 22, 23, 24, 25, 26, 27, 0, 0, 28, 29, 30, 31, 32, 33, 34, 35, 36, 37, 38, 39, 40, 41, 0]
def ra (K : Nat) : Nat := ral.getD K 0
section SM
variable {α β σ : Type} {mo : Nat}
theorem xb_ok {x : QX α} {f : α → QX β} {m m1 : QM} {a : α} (h : x m = some (.ok a, m1)) : xb x f m = f a m1 := by unfold xb; rw [h]
def seta (S : MS) (K : Nat) (z v : Int) : MS := (fun J y => if J = K ∧ y = z then v else ma S J y, S.2)
def setl (S : MS) (K : Nat) (z : Int) (v : Int64) : MS := (S.1, fun J y => if J = K ∧ y = z then v else ml S J y, S.2.2)
def prem (x y : Int32) : PX Int32 := fun S => if y = 0 then none else some (x - x / y * y, S)
theorem xat_pos {α : Type} {t u n a : Nat} {z : Int32} {f : Nat → Nat → QX α} {m : QM} (ht : qty m a = (t, u, n)) (h : 0 ≤ z.toInt ∧ z.toInt < n) : xat t u (some a) z f m = f a z.toNatClampNeg m := by
  show (if (qty m a).1 = t ∧ (qty m a).2.1 = u ∧ 0 ≤ z.toInt ∧ z.toInt < (qty m a).2.2 then f a z.toNatClampNeg m else none) = _
  rw [ht, if_pos ⟨rfl, rfl, h.1, h.2⟩]
theorem b2ne (b : Bool) : decide (¬ b2i b = 0) = b := by cases b <;> rfl
theorem xz_b2i (b : Bool) : xz (b2i b) = xp (b2i b) := by funext m; cases b <;> rfl
end SM
