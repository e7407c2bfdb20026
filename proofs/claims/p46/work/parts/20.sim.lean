def I (z : Int) : Int32 := Int32.ofInt z
theorem I_toInt (x : Int32) : I x.toInt = x := Int32.ofInt_toInt x
theorem toInt_I {z : Int} (h0 : -2147483648 ≤ z) (h1 : z < 2147483648) : (I z).toInt = z := Int32.toInt_ofInt_of_le (by simpa using h0) (by simpa using h1)
theorem clamp_I {z : Int} (h0 : 0 ≤ z) (h1 : z < 2147483648) : (I z).toNatClampNeg = z.toNat := by
  show (I z).toInt.toNat = z.toNat
  rw [toInt_I (by omega) h1]
abbrev MS : Type := (Nat → Int → Int) × (Nat → Int → Int64) × (Nat → Int)
def ma (S : MS) : Nat → Int → Int := S.1
def ml (S : MS) : Nat → Int → Int64 := S.2.1
def mf (S : MS) : Nat → Int := S.2.2
abbrev PX (α : Type) : Type := MS → Option (α × MS)
def pp {α : Type} (a : α) : PX α := fun s => some (a, s)
def pb {α β : Type} (x : PX α) (f : α → PX β) : PX β := fun s => match x s with
  | none => none
  | some (a, s') => f a s'
def pl {σ : Type} : Nat → (σ → PX Bool) → (σ → PX σ) → σ → PX σ
  | 0, _, _, _ => fun _ => none
  | n + 1, c, b, s => pb (c s) fun v => if v then pb (b s) fun s' => pl n c b s' else pp s
def ktl : List (Nat × Nat × Nat) := [(2, 0, 3), (2, 0, 3), (2, 0, 3), (0, 0, 0), (2, 0, 8), (2, 0, 8), (2, 0, 8), (0, 0, 0), (2, 1, 160), (2, 0, 160), (2, 0, 160), (2, 0, 160), (2, 0, 160), (2, 0, 160), (2, 0, 160), (2, 0, 160), (2, 0, 160), (2, 0, 160), (2, 0, 160), (2, 1, 160), (3, 0, 160), (3, 0, 160), (3, 0, 160), (3, 0, 160), (2, 0, 9600), (2, 0, 40), (2, 0, 40), (2, 0, 5), (2, 0, 5), (0, 0, 0), (0, 0, 0), (2, 0, 150), (2, 0, 150), (2, 0, 150), (2, 0, 150), (2, 0, 150), (2, 0, 150), (2, 0, 150), (2, 0, 150), (2, 0, 150), (2, 0, 150), (2, 0, 150), (2, 1, 150), (2, 1, 150), (2, 1, 1650), (0, 0, 0)]
def kty (K : Nat) : Nat × Nat × Nat := ktl.getD K (0, 0, 0)
def ral : List Nat := [1, 2, 3, 0, 4, 5, 6, 0, 7, 8, 9, 10, 11, 12, 13, 14, 15, 16, 17, 18, 19, 20, 21, 22, 23, 24, 25, 26, 27, 0, 0, 28, 29, 30, 31, 32, 33, 34, 35, 36, 37, 38, 39, 40, 41, 0]
def ra (K : Nat) : Nat := ral.getD K 0
theorem ra_inj : ∀ K, K < 46 → ∀ J, J < 46 → (kty K).1 ≠ 0 → (kty J).1 ≠ 0 → ra K = ra J → K = J := by decide +kernel
theorem ra_pos : ∀ K, K < 46 → (kty K).1 ≠ 0 → 1 ≤ ra K ∧ ra K < 42 := by decide +kernel
theorem kty_lt {K : Nat} (h : (kty K).1 ≠ 0) : K < 46 := by
  rcases Nat.lt_or_ge K 46 with h' | h'
  · exact h'
  · have : kty K = (0, 0, 0) := by unfold kty; rw [List.getD_eq_getElem?_getD, List.getElem?_eq_none (by exact h')]; rfl
    rw [this] at h; exact absurd rfl h
def RM (mo : Nat) (S : MS) (m : QM) : Prop :=
  qty m mo = (1, 8, 0) ∧ (∀ K, (kty K).1 ≠ 0 → qfr m (64 * 8 + K) mo = some (mo + ra K)) ∧ (∀ K, (kty K).1 ≠ 0 → qty m (mo + ra K) = kty K) ∧
  (∀ K, (kty K).1 = 2 → ∀ z : Int, 0 ≤ z → qai m (mo + ra K) z.toNat = I (ma S K z)) ∧ (∀ K, (kty K).1 = 3 → ∀ z : Int, 0 ≤ z → qal m (mo + ra K) z.toNat = ml S K z) ∧ ∀ K, qfi m (64 * 8 + K) mo = I (mf S K)
section RM0
variable {mo : Nat} {S : MS} {m : QM}
theorem RM.ob (h : RM mo S m) : qty m mo = (1, 8, 0) := h.1
theorem RM.rf (h : RM mo S m) : ∀ K, (kty K).1 ≠ 0 → qfr m (64 * 8 + K) mo = some (mo + ra K) := h.2.1
theorem RM.ty (h : RM mo S m) : ∀ K, (kty K).1 ≠ 0 → qty m (mo + ra K) = kty K := h.2.2.1
theorem RM.ai (h : RM mo S m) : ∀ K, (kty K).1 = 2 → ∀ z : Int, 0 ≤ z → qai m (mo + ra K) z.toNat = I (ma S K z) := h.2.2.2.1
theorem RM.al (h : RM mo S m) : ∀ K, (kty K).1 = 3 → ∀ z : Int, 0 ≤ z → qal m (mo + ra K) z.toNat = ml S K z := h.2.2.2.2.1
theorem RM.fi (h : RM mo S m) : ∀ K, qfi m (64 * 8 + K) mo = I (mf S K) := h.2.2.2.2.2
end RM0
def FM (mo : Nat) (m m' : QM) : Prop :=
  qtop m' = qtop m ∧ (∀ b, qty m' b = qty m b) ∧ (∀ f b, (b < mo ∨ mo + 42 ≤ b) → qfi m' f b = qfi m f b) ∧ (∀ f b, qfl m' f b = qfl m f b) ∧ (∀ f b, qfr m' f b = qfr m f b) ∧
  (∀ b, (b < mo ∨ mo + 42 ≤ b) → qai m' b = qai m b) ∧ (∀ b, (b < mo ∨ mo + 42 ≤ b) → qal m' b = qal m b) ∧ ∀ b, qar m' b = qar m b
theorem FM.top {mo : Nat} {m m' : QM} (h : FM mo m m') : qtop m' = qtop m := h.1
theorem FM.ty {mo : Nat} {m m' : QM} (h : FM mo m m') : ∀ b, qty m' b = qty m b := h.2.1
theorem FM.fi {mo : Nat} {m m' : QM} (h : FM mo m m') : ∀ f b, (b < mo ∨ mo + 42 ≤ b) → qfi m' f b = qfi m f b := h.2.2.1
theorem FM.fl {mo : Nat} {m m' : QM} (h : FM mo m m') : ∀ f b, qfl m' f b = qfl m f b := h.2.2.2.1
theorem FM.fr {mo : Nat} {m m' : QM} (h : FM mo m m') : ∀ f b, qfr m' f b = qfr m f b := h.2.2.2.2.1
theorem FM.ai {mo : Nat} {m m' : QM} (h : FM mo m m') : ∀ b, (b < mo ∨ mo + 42 ≤ b) → qai m' b = qai m b := h.2.2.2.2.2.1
theorem FM.al {mo : Nat} {m m' : QM} (h : FM mo m m') : ∀ b, (b < mo ∨ mo + 42 ≤ b) → qal m' b = qal m b := h.2.2.2.2.2.2.1
theorem FM.ar {mo : Nat} {m m' : QM} (h : FM mo m m') : ∀ b, qar m' b = qar m b := h.2.2.2.2.2.2.2
theorem FM.refl (mo : Nat) (m : QM) : FM mo m m := ⟨rfl, fun _ => rfl, fun _ _ _ => rfl, fun _ _ => rfl, fun _ _ => rfl, fun _ _ => rfl, fun _ _ => rfl, fun _ => rfl⟩
theorem FM.trans {mo : Nat} {m m1 m2 : QM} (h : FM mo m m1) (g : FM mo m1 m2) : FM mo m m2 :=
  ⟨g.top.trans h.top, fun b => (g.ty b).trans (h.ty b), fun f b q => (g.fi f b q).trans (h.fi f b q), fun f b => (g.fl f b).trans (h.fl f b), fun f b => (g.fr f b).trans (h.fr f b), fun b q => (g.ai b q).trans (h.ai b q), fun b q => (g.al b q).trans (h.al b q), fun b => (g.ar b).trans (h.ar b)⟩
section SM
variable {α β σ : Type} {mo : Nat}
theorem xb_ok {x : QX α} {f : α → QX β} {m m1 : QM} {a : α} (h : x m = some (.ok a, m1)) : xb x f m = f a m1 := by unfold xb; rw [h]
def seta (S : MS) (K : Nat) (z v : Int) : MS := (fun J y => if J = K ∧ y = z then v else ma S J y, S.2)
def setl (S : MS) (K : Nat) (z : Int) (v : Int64) : MS := (S.1, fun J y => if J = K ∧ y = z then v else ml S J y, S.2.2)
def prem (x y : Int32) : PX Int32 := fun S => if y = 0 then none else some (x - x / y * y, S)
theorem xat_pos {α : Type} {t u n a : Nat} {z : Int32} {f : Nat → Nat → QX α} {m : QM} (ht : qty m a = (t, u, n)) (h : 0 ≤ z.toInt ∧ z.toInt < n) : xat t u (some a) z f m = f a z.toNatClampNeg m := by
  show (if (qty m a).1 = t ∧ (qty m a).2.1 = u ∧ 0 ≤ z.toInt ∧ z.toInt < (qty m a).2.2 then f a z.toNatClampNeg m else none) = _
  rw [ht, if_pos ⟨rfl, rfl, h.1, h.2⟩]
theorem toNat_inj {y z : Int} (hy : 0 ≤ y) (hz : 0 ≤ z) (h : y.toNat = z.toNat) : y = z := by omega
theorem RM.seta {S : MS} {m : QM} {K : Nat} {z : Int} {x : Int32} (hR : RM mo S m) (hk : (kty K).1 = 2) (hz : 0 ≤ z) : RM mo (seta S K z x.toInt) (sai m (mo + ra K) z.toNat x) := by
  refine ⟨hR.ob, hR.rf, hR.ty, fun J hJ y hy => ?_, hR.al, hR.fi⟩
  show va_up (qai m) (mo + ra K) (va_up (qai m (mo + ra K)) z.toNat x) (mo + ra J) y.toNat = I (if J = K ∧ y = z then x.toInt else ma S J y)
  by_cases e : J = K
  · subst e
    rw [va_up_same]
    by_cases e2 : y = z
    · subst e2; rw [va_up_same, if_pos ⟨rfl, rfl⟩, I_toInt]
    · rw [va_up_diff _ _ (fun q => e2 (toNat_inj hy hz q)), if_neg (fun q => e2 q.2)]; exact hR.ai J hJ y hy
  · have h1 : (kty J).1 ≠ 0 := by rw [hJ]; decide
    have h2 : (kty K).1 ≠ 0 := by rw [hk]; decide
    rw [va_up_diff _ _ (fun q => e (ra_inj J (kty_lt h1) K (kty_lt h2) h1 h2 (by omega))), if_neg (fun q => e q.1)]; exact hR.ai J hJ y hy
theorem b2ne (b : Bool) : decide (¬ b2i b = 0) = b := by cases b <;> rfl
theorem xz_b2i (b : Bool) : xz (b2i b) = xp (b2i b) := by funext m; cases b <;> rfl
end SM
