/-! THE REFERENCE'S OWN STATE: its arrays by the numbers of their fields, as whole numbers; computations over it, and how the memory goes with them -/
def I (z : Int) : Int32 := Int32.ofInt z
theorem I_toInt (x : Int32) : I x.toInt = x := Int32.ofInt_toInt x
theorem toInt_I {z : Int} (h0 : -2147483648 ≤ z) (h1 : z < 2147483648) : (I z).toInt = z := Int32.toInt_ofInt_of_le (by simpa using h0) (by simpa using h1)
theorem clamp_I {z : Int} (h0 : 0 ≤ z) (h1 : z < 2147483648) : (I z).toNatClampNeg = z.toNat := by
  show (I z).toInt.toNat = z.toNat
  rw [toInt_I (by omega) h1]
abbrev MS : Type := (Nat → Int → Int) × (Nat → Int → Int64) × (Nat → Int)
def ma (S : MS) : Nat → Int → Int := S.1
def ml (S : MS) : Nat → Int → Int64 := S.2.1
def mf (S : MS) : Nat → Int := S.2.2
abbrev PX (α : Type) : Type := MS → Option (α × MS)
def pp {α : Type} (a : α) : PX α := fun s => some (a, s)
def pb {α β : Type} (x : PX α) (f : α → PX β) : PX β := fun s => match x s with
  | none => none
  | some (a, s') => f a s'
def pl {σ : Type} : Nat → (σ → PX Bool) → (σ → PX σ) → σ → PX σ
  | 0, _, _, _ => fun _ => none
  | n + 1, c, b, s => pb (c s) fun v => if v then pb (b s) fun s' => pl n c b s' else pp s
/-- the arrays' kinds by the fields' numbers -/
def ktl : List (Nat × Nat × Nat) := [(2, 0, 3), (2, 0, 3), (2, 0, 3), (0, 0, 0), (2, 0, 8), (2, 0, 8), (2, 0, 8), (0, 0, 0), (2, 1, 160), (2, 0, 160), (2, 0, 160), (2, 0, 160), (2, 0, 160), (2, 0, 160), (2, 0, 160), (2, 0, 160), (2, 0, 160), (2, 0, 160), (2, 0, 160), (2, 1, 160), (3, 0, 160), (3, 0, 160), (3, 0, 160), (3, 0, 160), (2, 0, 9600), (2, 0, 40), (2, 0, 40), (2, 0, 5), (2, 0, 5), (0, 0, 0), (0, 0, 0), (2, 0, 150), (2, 0, 150), (2, 0, 150), (2, 0, 150), (2, 0, 150), (2, 0, 150), (2, 0, 150), (2, 0, 150), (2, 0, 150), (2, 0, 150), (2, 0, 150), (2, 1, 150), (2, 1, 150), (2, 1, 1650), (0, 0, 0)]
def kty (K : Nat) : Nat × Nat × Nat := ktl.getD K (0, 0, 0)
/-- the arrays' places behind the object -/
def ral : List Nat := [1, 2, 3, 0, 4, 5, 6, 0, 7, 8, 9, 10, 11, 12, 13, 14, 15, 16, 17, 18, 19, 20, 21, 22, 23, 24, 25, 26, 27, 0, 0, 28, 29, 30, 31, 32, 33, 34, 35, 36, 37, 38, 39, 40, 41, 0]
def ra (K : Nat) : Nat := ral.getD K 0
theorem ra_inj : ∀ K, K < 46 → ∀ J, J < 46 → (kty K).1 ≠ 0 → (kty J).1 ≠ 0 → ra K = ra J → K = J := by decide +kernel
theorem ra_pos : ∀ K, K < 46 → (kty K).1 ≠ 0 → 1 ≤ ra K ∧ ra K < 42 := by decide +kernel
theorem kty_lt {K : Nat} (h : (kty K).1 ≠ 0) : K < 46 := by
  rcases Nat.lt_or_ge K 46 with h' | h'
  · exact h'
  · have : kty K = (0, 0, 0) := by unfold kty; rw [List.getD_eq_getElem?_getD, List.getElem?_eq_none (by exact h')]; rfl
    rw [this] at h; exact absurd rfl h
theorem kty_n : ∀ K, K < 46 → (kty K).2.2 < 10000 := by decide +kernel
def RM (mo : Nat) (S : MS) (m : QM) : Prop :=
  qty m mo = (1, 8, 0) ∧ (∀ K, (kty K).1 ≠ 0 → qfr m (64 * 8 + K) mo = some (mo + ra K)) ∧ (∀ K, (kty K).1 ≠ 0 → qty m (mo + ra K) = kty K) ∧
  (∀ K, (kty K).1 = 2 → ∀ z : Int, 0 ≤ z → qai m (mo + ra K) z.toNat = I (ma S K z)) ∧ (∀ K, (kty K).1 = 3 → ∀ z : Int, 0 ≤ z → qal m (mo + ra K) z.toNat = ml S K z) ∧ ∀ K, qfi m (64 * 8 + K) mo = I (mf S K)
section RM0
variable {mo : Nat} {S : MS} {m : QM}
theorem RM.ob (h : RM mo S m) : qty m mo = (1, 8, 0) := h.1
theorem RM.rf (h : RM mo S m) : ∀ K, (kty K).1 ≠ 0 → qfr m (64 * 8 + K) mo = some (mo + ra K) := h.2.1
theorem RM.ty (h : RM mo S m) : ∀ K, (kty K).1 ≠ 0 → qty m (mo + ra K) = kty K := h.2.2.1
theorem RM.ai (h : RM mo S m) : ∀ K, (kty K).1 = 2 → ∀ z : Int, 0 ≤ z → qai m (mo + ra K) z.toNat = I (ma S K z) := h.2.2.2.1
theorem RM.al (h : RM mo S m) : ∀ K, (kty K).1 = 3 → ∀ z : Int, 0 ≤ z → qal m (mo + ra K) z.toNat = ml S K z := h.2.2.2.2.1
theorem RM.fi (h : RM mo S m) : ∀ K, qfi m (64 * 8 + K) mo = I (mf S K) := h.2.2.2.2.2
end RM0
/-- all else is as it was -/
def FM (mo : Nat) (m m' : QM) : Prop :=
  qtop m' = qtop m ∧ (∀ b, qty m' b = qty m b) ∧ (∀ f b, (b < mo ∨ mo + 42 ≤ b) → qfi m' f b = qfi m f b) ∧ (∀ f b, qfl m' f b = qfl m f b) ∧ (∀ f b, qfr m' f b = qfr m f b) ∧
  (∀ b, (b < mo ∨ mo + 42 ≤ b) → qai m' b = qai m b) ∧ (∀ b, (b < mo ∨ mo + 42 ≤ b) → qal m' b = qal m b) ∧ ∀ b, qar m' b = qar m b
theorem FM.top {mo : Nat} {m m' : QM} (h : FM mo m m') : qtop m' = qtop m := h.1
theorem FM.ty {mo : Nat} {m m' : QM} (h : FM mo m m') : ∀ b, qty m' b = qty m b := h.2.1
theorem FM.fi {mo : Nat} {m m' : QM} (h : FM mo m m') : ∀ f b, (b < mo ∨ mo + 42 ≤ b) → qfi m' f b = qfi m f b := h.2.2.1
theorem FM.fl {mo : Nat} {m m' : QM} (h : FM mo m m') : ∀ f b, qfl m' f b = qfl m f b := h.2.2.2.1
theorem FM.fr {mo : Nat} {m m' : QM} (h : FM mo m m') : ∀ f b, qfr m' f b = qfr m f b := h.2.2.2.2.1
theorem FM.ai {mo : Nat} {m m' : QM} (h : FM mo m m') : ∀ b, (b < mo ∨ mo + 42 ≤ b) → qai m' b = qai m b := h.2.2.2.2.2.1
theorem FM.al {mo : Nat} {m m' : QM} (h : FM mo m m') : ∀ b, (b < mo ∨ mo + 42 ≤ b) → qal m' b = qal m b := h.2.2.2.2.2.2.1
theorem FM.ar {mo : Nat} {m m' : QM} (h : FM mo m m') : ∀ b, qar m' b = qar m b := h.2.2.2.2.2.2.2
theorem FM.refl (mo : Nat) (m : QM) : FM mo m m := ⟨rfl, fun _ => rfl, fun _ _ _ => rfl, fun _ _ => rfl, fun _ _ => rfl, fun _ _ => rfl, fun _ _ => rfl, fun _ => rfl⟩
theorem FM.trans {mo : Nat} {m m1 m2 : QM} (h : FM mo m m1) (g : FM mo m1 m2) : FM mo m m2 :=
  ⟨g.top.trans h.top, fun b => (g.ty b).trans (h.ty b), fun f b q => (g.fi f b q).trans (h.fi f b q), fun f b => (g.fl f b).trans (h.fl f b), fun f b => (g.fr f b).trans (h.fr f b), fun b q => (g.ai b q).trans (h.ai b q), fun b q => (g.al b q).trans (h.al b q), fun b => (g.ar b).trans (h.ar b)⟩
def SIM {α : Type} (mo : Nat) (x : QX α) (y : PX α) : Prop := ∀ (S : MS) (m : QM) (v : α) (S' : MS), RM mo S m → y S = some (v, S') → ∃ m', x m = some (.ok v, m') ∧ RM mo S' m' ∧ FM mo m m'
section SM
variable {α β σ : Type} {mo : Nat}
theorem sim_pp {a b : α} (h : a = b) : SIM mo (xp a) (pp b) := by
  intro S m v S' hR hy
  subst h
  have hy' : some (a, S) = some (v, S') := hy
  cases hy'
  exact ⟨m, rfl, hR, FM.refl mo m⟩
theorem pb_some {x : PX α} {f : α → PX β} {S S' : MS} {v : β} (h : pb x f S = some (v, S')) : ∃ a S1, x S = some (a, S1) ∧ f a S1 = some (v, S') := by
  unfold pb at h
  cases hx : x S with
  | none => rw [hx] at h; cases h
  | some r => obtain ⟨a, S1⟩ := r; rw [hx] at h; exact ⟨a, S1, rfl, h⟩
theorem xb_ok {x : QX α} {f : α → QX β} {m m1 : QM} {a : α} (h : x m = some (.ok a, m1)) : xb x f m = f a m1 := by unfold xb; rw [h]
theorem pb_ok {x : PX α} {f : α → PX β} {S S1 : MS} {a : α} (h : x S = some (a, S1)) : pb x f S = f a S1 := by unfold pb; rw [h]
theorem sim_pb {x : QX α} {f : α → QX β} {y : PX α} {g : α → PX β} (h : SIM mo x y) (h2 : ∀ v, SIM mo (f v) (g v)) : SIM mo (xb x f) (pb y g) := by
  intro S m v S' hR hy
  obtain ⟨a, S1, h3, h4⟩ := pb_some hy
  obtain ⟨m1, e1, R1, F1⟩ := h S m a S1 hR h3
  obtain ⟨m2, e2, R2, F2⟩ := h2 a S1 m1 v S' R1 h4
  exact ⟨m2, (xb_ok e1).trans e2, R2, F1.trans F2⟩
theorem sim_pure {a : α} {f : α → QX β} {y : PX β} (h : SIM mo (f a) y) : SIM mo (xb (xp a) f) y := h
theorem sim_assoc {γ : Type} {x : QX α} {f : α → QX β} {g : β → QX γ} {y : PX γ} (h : SIM mo (xb x fun v => xb (f v) g) y) : SIM mo (xb (xb x f) g) y := by
  have e : xb (xb x f) g = xb x fun v => xb (f v) g := by
    funext m
    unfold xb
    cases x m with
    | none => rfl
    | some r => obtain ⟨r1, r2⟩ := r; cases r1 <;> rfl
  rw [e]; exact h
theorem sim_gr {K : Nat} {f : Option Nat → QX β} {y : PX β} (hk : (kty K).1 ≠ 0) (h : SIM mo (f (some (mo + ra K))) y) : SIM mo (xb (xgr 8 K (some mo)) f) y := by
  intro S m v S' hR hy
  obtain ⟨m', e, h2⟩ := h S m v S' hR hy
  refine ⟨m', Eq.trans (xb_ok (a := some (mo + ra K)) (m1 := m) ?_) e, h2⟩
  show (if qty m mo = (1, 8, 0) then _ else _) = _
  rw [if_pos hR.ob, hR.rf K hk]
def pgi (K : Nat) : PX Int32 := fun S => some (I (mf S K), S)
def psi (K : Nat) (x : Int32) : PX Unit := fun S => some ((), (S.1, S.2.1, fun J => if J = K then x.toInt else mf S J))
def pai (K : Nat) (z : Int32) : PX Int32 := fun S => if 0 ≤ z.toInt ∧ z.toInt < (kty K).2.2 then some (I (ma S K z.toInt), S) else none
def pal (K : Nat) (z : Int32) : PX Int64 := fun S => if 0 ≤ z.toInt ∧ z.toInt < (kty K).2.2 then some (ml S K z.toInt, S) else none
def seta (S : MS) (K : Nat) (z v : Int) : MS := (fun J y => if J = K ∧ y = z then v else ma S J y, S.2)
def setl (S : MS) (K : Nat) (z : Int) (v : Int64) : MS := (S.1, fun J y => if J = K ∧ y = z then v else ml S J y, S.2.2)
def psai (K : Nat) (z x : Int32) : PX Unit := fun S => if 0 ≤ z.toInt ∧ z.toInt < (kty K).2.2 then some ((), seta S K z.toInt x.toInt) else none
def psaz (K : Nat) (z x : Int32) : PX Unit := fun S => if (0 ≤ z.toInt ∧ z.toInt < (kty K).2.2) ∧ (x = 0 ∨ x = 1) then some ((), seta S K z.toInt x.toInt) else none
def psal (K : Nat) (z : Int32) (x : Int64) : PX Unit := fun S => if 0 ≤ z.toInt ∧ z.toInt < (kty K).2.2 then some ((), setl S K z.toInt x) else none
def pz (v : Int32) : PX Int32 := fun S => if v = 0 ∨ v = 1 then some (v, S) else none
def pch (v : Int32) : PX Int32 := fun S => if 0 ≤ v.toInt ∧ v.toInt < 65536 then some (v, S) else none
def pdiv (x y : Int32) : PX Int32 := fun S => if y = 0 then none else some (x / y, S)
def prem (x y : Int32) : PX Int32 := fun S => if y = 0 then none else some (x - x / y * y, S)
theorem ite_some {p : Prop} [Decidable p] {α : Type} {a b : α} (h : (if p then some a else none) = some b) : p ∧ a = b := by
  by_cases hp : p
  · rw [if_pos hp] at h; exact ⟨hp, Option.some.inj h⟩
  · rw [if_neg hp] at h; cases h
theorem sim_pz {v : Int32} : SIM mo (xz v) (pz v) := by
  intro S m w S' hR hy
  obtain ⟨h1, h2⟩ := ite_some hy
  cases h2
  exact ⟨m, if_pos h1, hR, FM.refl mo m⟩
theorem sim_pch {v : Int32} : SIM mo (xch v) (pch v) := by
  intro S m w S' hR hy
  obtain ⟨h1, h2⟩ := ite_some hy
  cases h2
  exact ⟨m, if_pos h1, hR, FM.refl mo m⟩
theorem sim_div {v w : Int32} : SIM mo (xdiv v w) (pdiv v w) := by
  intro S m u S' hR hy
  have hy' : (if w = 0 then none else some (v / w, S)) = some (u, S') := hy
  by_cases hw : w = 0
  · rw [if_pos hw] at hy'; cases hy'
  · rw [if_neg hw] at hy'; cases hy'; exact ⟨m, if_neg hw, hR, FM.refl mo m⟩
theorem sim_rem {v w : Int32} : SIM mo (xrem v w) (prem v w) := by
  intro S m u S' hR hy
  have hy' : (if w = 0 then none else some (v - v / w * w, S)) = some (u, S') := hy
  by_cases hw : w = 0
  · rw [if_pos hw] at hy'; cases hy'
  · rw [if_neg hw] at hy'; cases hy'; exact ⟨m, if_neg hw, hR, FM.refl mo m⟩
theorem sim_gi {K : Nat} : SIM mo (xgi 8 K (some mo)) (pgi K) := by
  intro S m v S' hR hy
  have hy' : some (I (mf S K), S) = some (v, S') := hy
  cases hy'
  refine ⟨m, ?_, hR, FM.refl mo m⟩
  show (if qty m mo = (1, 8, 0) then _ else _) = _
  rw [if_pos hR.ob, hR.fi K]
theorem sim_si {K : Nat} {x : Int32} : SIM mo (xsi 8 K (some mo) x) (psi K x) := by
  intro S m v S' hR hy
  have hy' : some ((), _) = some (v, S') := hy
  cases hy'
  refine ⟨sfi m (64 * 8 + K) mo x, ?_, ⟨hR.ob, hR.rf, hR.ty, hR.ai, hR.al, fun J => ?_⟩, ⟨rfl, fun _ => rfl, fun f b hb => ?_, fun _ _ => rfl, fun _ _ => rfl, fun _ _ => rfl, fun _ _ => rfl, fun _ => rfl⟩⟩
  · show (if qty m mo = (1, 8, 0) then _ else _) = _
    rw [if_pos hR.ob]
  · show va_up (qfi m) (64 * 8 + K) (va_up (qfi m (64 * 8 + K)) mo x) (64 * 8 + J) mo = I (if J = K then x.toInt else mf S J)
    by_cases e : J = K
    · subst e; rw [va_up_same, va_up_same, if_pos rfl, I_toInt]
    · rw [va_up_diff _ _ (by omega), if_neg e]; exact hR.fi J
  · show va_up (qfi m) (64 * 8 + K) (va_up (qfi m (64 * 8 + K)) mo x) f b = qfi m f b
    by_cases e : f = 64 * 8 + K
    · subst e; rw [va_up_same, va_up_diff _ _ (by omega)]
    · rw [va_up_diff _ _ e]
theorem xat_pos {α : Type} {t u n a : Nat} {z : Int32} {f : Nat → Nat → QX α} {m : QM} (ht : qty m a = (t, u, n)) (h : 0 ≤ z.toInt ∧ z.toInt < n) : xat t u (some a) z f m = f a z.toNatClampNeg m := by
  show (if (qty m a).1 = t ∧ (qty m a).2.1 = u ∧ 0 ≤ z.toInt ∧ z.toInt < (qty m a).2.2 then f a z.toNatClampNeg m else none) = _
  rw [ht, if_pos ⟨rfl, rfl, h.1, h.2⟩]
theorem toNat_inj {y z : Int} (hy : 0 ≤ y) (hz : 0 ≤ z) (h : y.toNat = z.toNat) : y = z := by omega
theorem sim_ai {K u n : Nat} {z : Int32} (hk : kty K = (2, u, n)) : SIM mo (xai u (some (mo + ra K)) z) (pai K z) := by
  intro S m v S' hR hy
  obtain ⟨h1, h2⟩ := ite_some hy
  cases h2
  have hk1 : (kty K).1 ≠ 0 := by rw [hk]; exact Nat.succ_ne_zero _
  have ht := hR.ty K hk1
  rw [hk] at h1 ht
  refine ⟨m, ?_, hR, FM.refl mo m⟩
  rw [← hR.ai K (by rw [hk]) z.toInt h1.1]
  exact xat_pos ht h1
theorem sim_al {K n : Nat} {z : Int32} (hk : kty K = (3, 0, n)) : SIM mo (xal (some (mo + ra K)) z) (pal K z) := by
  intro S m v S' hR hy
  obtain ⟨h1, h2⟩ := ite_some hy
  cases h2
  have hk1 : (kty K).1 ≠ 0 := by rw [hk]; exact Nat.succ_ne_zero _
  have ht := hR.ty K hk1
  rw [hk] at h1 ht
  refine ⟨m, ?_, hR, FM.refl mo m⟩
  rw [← hR.al K (by rw [hk]) z.toInt h1.1]
  exact xat_pos ht h1
theorem RM.seta {S : MS} {m : QM} {K : Nat} {z : Int} {x : Int32} (hR : RM mo S m) (hk : (kty K).1 = 2) (hz : 0 ≤ z) : RM mo (seta S K z x.toInt) (sai m (mo + ra K) z.toNat x) := by
  refine ⟨hR.ob, hR.rf, hR.ty, fun J hJ y hy => ?_, hR.al, hR.fi⟩
  show va_up (qai m) (mo + ra K) (va_up (qai m (mo + ra K)) z.toNat x) (mo + ra J) y.toNat = I (if J = K ∧ y = z then x.toInt else ma S J y)
  by_cases e : J = K
  · subst e
    rw [va_up_same]
    by_cases e2 : y = z
    · subst e2; rw [va_up_same, if_pos ⟨rfl, rfl⟩, I_toInt]
    · rw [va_up_diff _ _ (fun q => e2 (toNat_inj hy hz q)), if_neg (fun q => e2 q.2)]; exact hR.ai J hJ y hy
  · have h1 : (kty J).1 ≠ 0 := by rw [hJ]; decide
    have h2 : (kty K).1 ≠ 0 := by rw [hk]; decide
    rw [va_up_diff _ _ (fun q => e (ra_inj J (kty_lt h1) K (kty_lt h2) h1 h2 (by omega))), if_neg (fun q => e q.1)]; exact hR.ai J hJ y hy
theorem FM_sai {m : QM} {K i : Nat} {x : Int32} (hk : (kty K).1 ≠ 0) : FM mo m (sai m (mo + ra K) i x) :=
  ⟨rfl, fun _ => rfl, fun _ _ _ => rfl, fun _ _ => rfl, fun _ _ => rfl, fun b hb => va_up_diff _ _ (by have := ra_pos K (kty_lt hk) hk; omega), fun _ _ => rfl, fun _ => rfl⟩
theorem sim_sai {K n : Nat} {z x : Int32} (hk : kty K = (2, 0, n)) : SIM mo (xsai (some (mo + ra K)) z x) (psai K z x) := by
  intro S m v S' hR hy
  obtain ⟨h1, h2⟩ := ite_some hy
  cases h2
  have hk1 : (kty K).1 ≠ 0 := by rw [hk]; exact Nat.succ_ne_zero _
  have ht := hR.ty K hk1
  rw [hk] at h1 ht
  exact ⟨_, xat_pos ht h1, hR.seta (by rw [hk]) h1.1, FM_sai hk1⟩
theorem sim_saz {K n : Nat} {z x : Int32} (hk : kty K = (2, 1, n)) : SIM mo (xsaz (some (mo + ra K)) z x) (psaz K z x) := by
  intro S m v S' hR hy
  obtain ⟨h1, h2⟩ := ite_some hy
  cases h2
  have hk1 : (kty K).1 ≠ 0 := by rw [hk]; exact Nat.succ_ne_zero _
  have ht := hR.ty K hk1
  rw [hk] at h1 ht
  exact ⟨_, (xat_pos ht h1.1).trans (if_pos h1.2), hR.seta (by rw [hk]) h1.1.1, FM_sai hk1⟩
theorem sim_sal {K n : Nat} {z : Int32} {x : Int64} (hk : kty K = (3, 0, n)) : SIM mo (xsal (some (mo + ra K)) z x) (psal K z x) := by
  intro S m v S' hR hy
  obtain ⟨h1, h2⟩ := ite_some hy
  cases h2
  have hk1 : (kty K).1 ≠ 0 := by rw [hk]; exact Nat.succ_ne_zero _
  have ht := hR.ty K hk1
  rw [hk] at h1 ht
  refine ⟨sal m (mo + ra K) z.toInt.toNat x, xat_pos ht h1, ⟨hR.ob, hR.rf, hR.ty, hR.ai, fun J hJ y hy0 => ?_, hR.fi⟩, ⟨rfl, fun _ => rfl, fun _ _ _ => rfl, fun _ _ => rfl, fun _ _ => rfl, fun _ _ => rfl, fun b hb => va_up_diff _ _ (by have := ra_pos K (kty_lt hk1) hk1; omega), fun _ => rfl⟩⟩
  show va_up (qal m) (mo + ra K) (va_up (qal m (mo + ra K)) z.toInt.toNat x) (mo + ra J) y.toNat = (if J = K ∧ y = z.toInt then x else ml S J y)
  by_cases e : J = K
  · subst e
    rw [va_up_same]
    by_cases e2 : y = z.toInt
    · subst e2; rw [va_up_same, if_pos ⟨rfl, rfl⟩]
    · rw [va_up_diff _ _ (fun q => e2 (toNat_inj hy0 h1.1 q)), if_neg (fun q => e2 q.2)]; exact hR.al J hJ y hy0
  · have g1 : (kty J).1 ≠ 0 := by rw [hJ]; decide
    rw [va_up_diff _ _ (fun q => e (ra_inj J (kty_lt g1) K (kty_lt hk1) g1 hk1 (by omega))), if_neg (fun q => e q.1)]; exact hR.al J hJ y hy0
theorem sim_if {c : Bool} {x x' : QX α} {y y' : PX α} (h : SIM mo x y) (h' : SIM mo x' y') : SIM mo (if c then x else x') (if c then y else y') := by
  cases c
  · exact h'
  · exact h
theorem b2ne (b : Bool) : decide (¬ b2i b = 0) = b := by cases b <;> rfl
theorem xz_b2i (b : Bool) : xz (b2i b) = xp (b2i b) := by funext m; cases b <;> rfl
theorem sim_if2 {c d : Bool} {x x' : QX α} {y y' : PX α} (e : c = d) (h : SIM mo x y) (h' : SIM mo x' y') : SIM mo (if c then x else x') (if d then y else y') := by
  subst e; exact sim_if h h'
theorem sim_zb {b c : Bool} (h : b = c) : SIM mo (xz (b2i b)) (pp (b2i c)) := by subst h; rw [xz_b2i]; exact sim_pp rfl
theorem sim_zif {c d : Bool} {x x' : QX Int32} {y y' : PX Int32} (e : c = d) (h : SIM mo (xb x xz) y) (h' : SIM mo (xb x' xz) y') : SIM mo (xb (if c then x else x') xz) (if d then y else y') := by
  subst e
  cases c
  · exact h'
  · exact h
theorem sim_xo {q c : Nat} {f : Nat → QX α} {y : PX α} (hc : c = 8) (hq : q = mo) (h : SIM mo (f mo) y) : SIM mo (xo c (some q) f) y := by
  subst hc; subst hq
  intro S m v S' hR hy
  obtain ⟨m', e, h2⟩ := h S m v S' hR hy
  refine ⟨m', Eq.trans ?_ e, h2⟩
  exact if_pos hR.ob
theorem sim_xl {n : Nat} {c : σ → QX Bool} {b : σ → QX σ} {c' : σ → PX Bool} {b' : σ → PX σ} {s s' : σ} (hs : s = s') (hc : ∀ s, SIM mo (c s) (c' s)) (hb : ∀ s, SIM mo (b s) (b' s)) : SIM mo (xl n c b s) (pl n c' b' s') := by
  subst hs
  induction n generalizing s with
  | zero => intro S m v S' hR hy; cases hy
  | succ n ih => exact sim_pb (hc s) fun v => sim_if (sim_pb (hb s) fun s' => ih (s := s')) (sim_pp rfl)
theorem sim_eta {x : QX α} {y : PX α} (h : SIM mo x y) : SIM mo (xb x fun v => xp v) y := by
  have e : (xb x fun v => xp v) = x := by
    funext m
    unfold xb
    cases x m with
    | none => rfl
    | some r => obtain ⟨r1, r2⟩ := r; cases r1 <;> rfl
  rw [e]; exact h
end SM
theorem I_zero : (0 : Int32) = I 0 := by decide
