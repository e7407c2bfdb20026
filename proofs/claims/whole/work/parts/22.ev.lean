/-! rules for evaluation over the reference's state -/
theorem I_add (a b : Int) : I a + I b = I (a + b) := (Int32.ofInt_add a b).symm
theorem I_sub (a b : Int) : I a - I b = I (a - b) := (Int32.ofInt_sub a b).symm
theorem I_mul (a b : Int) : I a * I b = I (a * b) := (Int32.ofInt_mul a b).symm
theorem I_neg (a : Int) : -(I a) = I (-a) := (Int32.ofInt_neg a).symm
theorem I_inj {a b : Int} (ha : -2147483648 ≤ a) (ha' : a < 2147483648) (hb : -2147483648 ≤ b) (hb' : b < 2147483648) : I a = I b ↔ a = b := by
  constructor
  · intro h
    have := congrArg Int32.toInt h
    rwa [toInt_I ha ha', toInt_I hb hb'] at this
  · intro h; rw [h]
theorem I_lt {a b : Int} (ha : -2147483648 ≤ a) (ha' : a < 2147483648) (hb : -2147483648 ≤ b) (hb' : b < 2147483648) : I a < I b ↔ a < b := by rw [Int32.lt_iff_toInt_lt, toInt_I ha ha', toInt_I hb hb']
theorem I_le {a b : Int} (ha : -2147483648 ≤ a) (ha' : a < 2147483648) (hb : -2147483648 ≤ b) (hb' : b < 2147483648) : I a ≤ I b ↔ a ≤ b := by rw [Int32.le_iff_toInt_le, toInt_I ha ha', toInt_I hb hb']
theorem I_of (x : Int32) : ∃ z : Int, -2147483648 ≤ z ∧ z < 2147483648 ∧ x = I z := ⟨x.toInt, x.le_toInt, x.toInt_lt, (I_toInt x).symm⟩
theorem pb_pp {α β : Type} (a : α) (f : α → PX β) : pb (pp a) f = f a := id rfl
theorem pb_assoc {α β γ : Type} (x : PX α) (f : α → PX β) (g : β → PX γ) : pb (pb x f) g = pb x fun v => pb (f v) g := by
  funext S
  unfold pb
  cases x S with
  | none => rfl
  | some r => rfl
theorem pb_if {α β : Type} (c : Prop) [Decidable c] (x y : PX α) (f : α → PX β) : pb (if c then x else y) f = if c then pb x f else pb y f := by by_cases h : c <;> simp only [h, if_true, if_false]
theorem app_if {α : Type} (c : Prop) [Decidable c] (x y : PX α) (S : MS) : (if c then x else y) S = if c then x S else y S := by by_cases h : c <;> simp only [h, if_true, if_false]
theorem pp_ap {α : Type} (a : α) (S : MS) : pp a S = some (a, S) := id rfl
theorem pb_pz {β : Type} (b : Bool) (f : Int32 → PX β) : pb (pz (b2i b)) f = f (b2i b) := by cases b <;> rfl
theorem pz_b2i (b : Bool) : pz (b2i b) = pp (b2i b) := by cases b <;> rfl
theorem b2i_t : b2i true = 1 := rfl
theorem b2i_f : b2i false = 0 := rfl
theorem r_gi {β : Type} {K : Nat} {f : Int32 → PX β} {S : MS} : pb (pgi K) f S = f (I (mf S K)) S := id rfl
theorem g_gi {K : Nat} {S : MS} : pgi K S = some (I (mf S K), S) := id rfl
def setf (S : MS) (K : Nat) (v : Int) : MS := (S.1, S.2.1, fun J => if J = K then v else S.2.2 J)
theorem w_si {β : Type} {K : Nat} {x : Int} {f : Unit → PX β} {S : MS} (h0 : -2147483648 ≤ x) (h1 : x < 2147483648) : pb (psi K (I x)) f S = f () (setf S K x) := by
  show f () (S.1, S.2.1, fun J => if J = K then (I x).toInt else mf S J) = _
  rw [toInt_I h0 h1]; rfl
theorem ra_gen {u n K : Nat} {z : Int} {S : MS} (hk : kty K = (2, u, n)) (hn : (n : Int) < 10000) (h0 : 0 ≤ z) (h1 : z < n) : pai K (I z) S = some (I (ma S K z), S) := by
  show (if 0 ≤ (I z).toInt ∧ (I z).toInt < ((kty K).2.2 : Int) then some (I (ma S K (I z).toInt), S) else none) = _
  rw [hk, toInt_I (by omega) (by omega)]
  exact if_pos ⟨h0, h1⟩
theorem rl_gen {n K : Nat} {z : Int} {S : MS} (hk : kty K = (3, 0, n)) (hn : (n : Int) < 10000) (h0 : 0 ≤ z) (h1 : z < n) : pal K (I z) S = some (ml S K z, S) := by
  show (if 0 ≤ (I z).toInt ∧ (I z).toInt < ((kty K).2.2 : Int) then some (ml S K (I z).toInt, S) else none) = _
  rw [hk, toInt_I (by omega) (by omega)]
  exact if_pos ⟨h0, h1⟩
theorem wa_gen {n K : Nat} {z x : Int} {S : MS} (hk : kty K = (2, 0, n)) (hn : (n : Int) < 10000) (h0 : 0 ≤ z) (h1 : z < n) (h2 : -2147483648 ≤ x) (h3 : x < 2147483648) : psai K (I z) (I x) S = some ((), seta S K z x) := by
  show (if 0 ≤ (I z).toInt ∧ (I z).toInt < ((kty K).2.2 : Int) then some ((), seta S K (I z).toInt (I x).toInt) else none) = _
  rw [hk, toInt_I (by omega) (by omega), toInt_I h2 h3]
  exact if_pos ⟨h0, h1⟩
theorem wz_gen {n K : Nat} {z x : Int} {S : MS} (hk : kty K = (2, 1, n)) (hn : (n : Int) < 10000) (h0 : 0 ≤ z) (h1 : z < n) (h2 : x = 0 ∨ x = 1) : psaz K (I z) (I x) S = some ((), seta S K z x) := by
  show (if (0 ≤ (I z).toInt ∧ (I z).toInt < ((kty K).2.2 : Int)) ∧ (I x = 0 ∨ I x = 1) then some ((), seta S K (I z).toInt (I x).toInt) else none) = _
  rw [hk, toInt_I (by omega) (by omega), toInt_I (by omega) (by omega)]
  refine if_pos ⟨⟨h0, h1⟩, ?_⟩
  rcases h2 with h2 | h2
  · subst h2; exact Or.inl (by decide)
  · subst h2; exact Or.inr (by decide)
theorem wl_gen {n K : Nat} {z : Int} {x : Int64} {S : MS} (hk : kty K = (3, 0, n)) (hn : (n : Int) < 10000) (h0 : 0 ≤ z) (h1 : z < n) : psal K (I z) x S = some ((), setl S K z x) := by
  show (if 0 ≤ (I z).toInt ∧ (I z).toInt < ((kty K).2.2 : Int) then some ((), setl S K (I z).toInt x) else none) = _
  rw [hk, toInt_I (by omega) (by omega)]
  exact if_pos ⟨h0, h1⟩
theorem ga0 {S : MS} {z : Int} (h0 : 0 ≤ z) (h1 : z < 3) : pai 0 (I z) S = some (I (ma S 0 z), S) := ra_gen (n := 3) rfl (by decide) h0 h1
theorem gr0 {β : Type} {f : Int32 → PX β} {S : MS} {z : Int} (h0 : 0 ≤ z) (h1 : z < 3) : pb (pai 0 (I z)) f S = f (I (ma S 0 z)) S := pb_ok (ga0 h0 h1)
theorem gw0 {β : Type} {f : Unit → PX β} {S : MS} {z x : Int} (h0 : 0 ≤ z) (h1 : z < 3) (h2 : -2147483648 ≤ x) (h3 : x < 2147483648) : pb (psai 0 (I z) (I x)) f S = f () (seta S 0 z x) := pb_ok (wa_gen (n := 3) rfl (by decide) h0 h1 h2 h3)
theorem ga1 {S : MS} {z : Int} (h0 : 0 ≤ z) (h1 : z < 3) : pai 1 (I z) S = some (I (ma S 1 z), S) := ra_gen (n := 3) rfl (by decide) h0 h1
theorem gr1 {β : Type} {f : Int32 → PX β} {S : MS} {z : Int} (h0 : 0 ≤ z) (h1 : z < 3) : pb (pai 1 (I z)) f S = f (I (ma S 1 z)) S := pb_ok (ga1 h0 h1)
theorem gw1 {β : Type} {f : Unit → PX β} {S : MS} {z x : Int} (h0 : 0 ≤ z) (h1 : z < 3) (h2 : -2147483648 ≤ x) (h3 : x < 2147483648) : pb (psai 1 (I z) (I x)) f S = f () (seta S 1 z x) := pb_ok (wa_gen (n := 3) rfl (by decide) h0 h1 h2 h3)
theorem ga2 {S : MS} {z : Int} (h0 : 0 ≤ z) (h1 : z < 3) : pai 2 (I z) S = some (I (ma S 2 z), S) := ra_gen (n := 3) rfl (by decide) h0 h1
theorem gr2 {β : Type} {f : Int32 → PX β} {S : MS} {z : Int} (h0 : 0 ≤ z) (h1 : z < 3) : pb (pai 2 (I z)) f S = f (I (ma S 2 z)) S := pb_ok (ga2 h0 h1)
theorem gw2 {β : Type} {f : Unit → PX β} {S : MS} {z x : Int} (h0 : 0 ≤ z) (h1 : z < 3) (h2 : -2147483648 ≤ x) (h3 : x < 2147483648) : pb (psai 2 (I z) (I x)) f S = f () (seta S 2 z x) := pb_ok (wa_gen (n := 3) rfl (by decide) h0 h1 h2 h3)
theorem ga4 {S : MS} {z : Int} (h0 : 0 ≤ z) (h1 : z < 8) : pai 4 (I z) S = some (I (ma S 4 z), S) := ra_gen (n := 8) rfl (by decide) h0 h1
theorem gr4 {β : Type} {f : Int32 → PX β} {S : MS} {z : Int} (h0 : 0 ≤ z) (h1 : z < 8) : pb (pai 4 (I z)) f S = f (I (ma S 4 z)) S := pb_ok (ga4 h0 h1)
theorem gw4 {β : Type} {f : Unit → PX β} {S : MS} {z x : Int} (h0 : 0 ≤ z) (h1 : z < 8) (h2 : -2147483648 ≤ x) (h3 : x < 2147483648) : pb (psai 4 (I z) (I x)) f S = f () (seta S 4 z x) := pb_ok (wa_gen (n := 8) rfl (by decide) h0 h1 h2 h3)
theorem ga5 {S : MS} {z : Int} (h0 : 0 ≤ z) (h1 : z < 8) : pai 5 (I z) S = some (I (ma S 5 z), S) := ra_gen (n := 8) rfl (by decide) h0 h1
theorem gr5 {β : Type} {f : Int32 → PX β} {S : MS} {z : Int} (h0 : 0 ≤ z) (h1 : z < 8) : pb (pai 5 (I z)) f S = f (I (ma S 5 z)) S := pb_ok (ga5 h0 h1)
theorem gw5 {β : Type} {f : Unit → PX β} {S : MS} {z x : Int} (h0 : 0 ≤ z) (h1 : z < 8) (h2 : -2147483648 ≤ x) (h3 : x < 2147483648) : pb (psai 5 (I z) (I x)) f S = f () (seta S 5 z x) := pb_ok (wa_gen (n := 8) rfl (by decide) h0 h1 h2 h3)
theorem ga6 {S : MS} {z : Int} (h0 : 0 ≤ z) (h1 : z < 8) : pai 6 (I z) S = some (I (ma S 6 z), S) := ra_gen (n := 8) rfl (by decide) h0 h1
theorem gr6 {β : Type} {f : Int32 → PX β} {S : MS} {z : Int} (h0 : 0 ≤ z) (h1 : z < 8) : pb (pai 6 (I z)) f S = f (I (ma S 6 z)) S := pb_ok (ga6 h0 h1)
theorem gw6 {β : Type} {f : Unit → PX β} {S : MS} {z x : Int} (h0 : 0 ≤ z) (h1 : z < 8) (h2 : -2147483648 ≤ x) (h3 : x < 2147483648) : pb (psai 6 (I z) (I x)) f S = f () (seta S 6 z x) := pb_ok (wa_gen (n := 8) rfl (by decide) h0 h1 h2 h3)
theorem ga8 {S : MS} {z : Int} (h0 : 0 ≤ z) (h1 : z < 160) : pai 8 (I z) S = some (I (ma S 8 z), S) := ra_gen (n := 160) rfl (by decide) h0 h1
theorem gr8 {β : Type} {f : Int32 → PX β} {S : MS} {z : Int} (h0 : 0 ≤ z) (h1 : z < 160) : pb (pai 8 (I z)) f S = f (I (ma S 8 z)) S := pb_ok (ga8 h0 h1)
theorem gw8 {β : Type} {f : Unit → PX β} {S : MS} {z x : Int} (h0 : 0 ≤ z) (h1 : z < 160) (h2 : x = 0 ∨ x = 1) : pb (psaz 8 (I z) (I x)) f S = f () (seta S 8 z x) := pb_ok (wz_gen (n := 160) rfl (by decide) h0 h1 h2)
theorem ga9 {S : MS} {z : Int} (h0 : 0 ≤ z) (h1 : z < 160) : pai 9 (I z) S = some (I (ma S 9 z), S) := ra_gen (n := 160) rfl (by decide) h0 h1
theorem gr9 {β : Type} {f : Int32 → PX β} {S : MS} {z : Int} (h0 : 0 ≤ z) (h1 : z < 160) : pb (pai 9 (I z)) f S = f (I (ma S 9 z)) S := pb_ok (ga9 h0 h1)
theorem gw9 {β : Type} {f : Unit → PX β} {S : MS} {z x : Int} (h0 : 0 ≤ z) (h1 : z < 160) (h2 : -2147483648 ≤ x) (h3 : x < 2147483648) : pb (psai 9 (I z) (I x)) f S = f () (seta S 9 z x) := pb_ok (wa_gen (n := 160) rfl (by decide) h0 h1 h2 h3)
theorem ga10 {S : MS} {z : Int} (h0 : 0 ≤ z) (h1 : z < 160) : pai 10 (I z) S = some (I (ma S 10 z), S) := ra_gen (n := 160) rfl (by decide) h0 h1
theorem gr10 {β : Type} {f : Int32 → PX β} {S : MS} {z : Int} (h0 : 0 ≤ z) (h1 : z < 160) : pb (pai 10 (I z)) f S = f (I (ma S 10 z)) S := pb_ok (ga10 h0 h1)
theorem gw10 {β : Type} {f : Unit → PX β} {S : MS} {z x : Int} (h0 : 0 ≤ z) (h1 : z < 160) (h2 : -2147483648 ≤ x) (h3 : x < 2147483648) : pb (psai 10 (I z) (I x)) f S = f () (seta S 10 z x) := pb_ok (wa_gen (n := 160) rfl (by decide) h0 h1 h2 h3)
theorem ga11 {S : MS} {z : Int} (h0 : 0 ≤ z) (h1 : z < 160) : pai 11 (I z) S = some (I (ma S 11 z), S) := ra_gen (n := 160) rfl (by decide) h0 h1
theorem gr11 {β : Type} {f : Int32 → PX β} {S : MS} {z : Int} (h0 : 0 ≤ z) (h1 : z < 160) : pb (pai 11 (I z)) f S = f (I (ma S 11 z)) S := pb_ok (ga11 h0 h1)
theorem gw11 {β : Type} {f : Unit → PX β} {S : MS} {z x : Int} (h0 : 0 ≤ z) (h1 : z < 160) (h2 : -2147483648 ≤ x) (h3 : x < 2147483648) : pb (psai 11 (I z) (I x)) f S = f () (seta S 11 z x) := pb_ok (wa_gen (n := 160) rfl (by decide) h0 h1 h2 h3)
theorem ga12 {S : MS} {z : Int} (h0 : 0 ≤ z) (h1 : z < 160) : pai 12 (I z) S = some (I (ma S 12 z), S) := ra_gen (n := 160) rfl (by decide) h0 h1
theorem gr12 {β : Type} {f : Int32 → PX β} {S : MS} {z : Int} (h0 : 0 ≤ z) (h1 : z < 160) : pb (pai 12 (I z)) f S = f (I (ma S 12 z)) S := pb_ok (ga12 h0 h1)
theorem gw12 {β : Type} {f : Unit → PX β} {S : MS} {z x : Int} (h0 : 0 ≤ z) (h1 : z < 160) (h2 : -2147483648 ≤ x) (h3 : x < 2147483648) : pb (psai 12 (I z) (I x)) f S = f () (seta S 12 z x) := pb_ok (wa_gen (n := 160) rfl (by decide) h0 h1 h2 h3)
theorem ga13 {S : MS} {z : Int} (h0 : 0 ≤ z) (h1 : z < 160) : pai 13 (I z) S = some (I (ma S 13 z), S) := ra_gen (n := 160) rfl (by decide) h0 h1
theorem gr13 {β : Type} {f : Int32 → PX β} {S : MS} {z : Int} (h0 : 0 ≤ z) (h1 : z < 160) : pb (pai 13 (I z)) f S = f (I (ma S 13 z)) S := pb_ok (ga13 h0 h1)
theorem gw13 {β : Type} {f : Unit → PX β} {S : MS} {z x : Int} (h0 : 0 ≤ z) (h1 : z < 160) (h2 : -2147483648 ≤ x) (h3 : x < 2147483648) : pb (psai 13 (I z) (I x)) f S = f () (seta S 13 z x) := pb_ok (wa_gen (n := 160) rfl (by decide) h0 h1 h2 h3)
theorem ga14 {S : MS} {z : Int} (h0 : 0 ≤ z) (h1 : z < 160) : pai 14 (I z) S = some (I (ma S 14 z), S) := ra_gen (n := 160) rfl (by decide) h0 h1
theorem gr14 {β : Type} {f : Int32 → PX β} {S : MS} {z : Int} (h0 : 0 ≤ z) (h1 : z < 160) : pb (pai 14 (I z)) f S = f (I (ma S 14 z)) S := pb_ok (ga14 h0 h1)
theorem gw14 {β : Type} {f : Unit → PX β} {S : MS} {z x : Int} (h0 : 0 ≤ z) (h1 : z < 160) (h2 : -2147483648 ≤ x) (h3 : x < 2147483648) : pb (psai 14 (I z) (I x)) f S = f () (seta S 14 z x) := pb_ok (wa_gen (n := 160) rfl (by decide) h0 h1 h2 h3)
theorem ga15 {S : MS} {z : Int} (h0 : 0 ≤ z) (h1 : z < 160) : pai 15 (I z) S = some (I (ma S 15 z), S) := ra_gen (n := 160) rfl (by decide) h0 h1
theorem gr15 {β : Type} {f : Int32 → PX β} {S : MS} {z : Int} (h0 : 0 ≤ z) (h1 : z < 160) : pb (pai 15 (I z)) f S = f (I (ma S 15 z)) S := pb_ok (ga15 h0 h1)
theorem gw15 {β : Type} {f : Unit → PX β} {S : MS} {z x : Int} (h0 : 0 ≤ z) (h1 : z < 160) (h2 : -2147483648 ≤ x) (h3 : x < 2147483648) : pb (psai 15 (I z) (I x)) f S = f () (seta S 15 z x) := pb_ok (wa_gen (n := 160) rfl (by decide) h0 h1 h2 h3)
theorem ga16 {S : MS} {z : Int} (h0 : 0 ≤ z) (h1 : z < 160) : pai 16 (I z) S = some (I (ma S 16 z), S) := ra_gen (n := 160) rfl (by decide) h0 h1
theorem gr16 {β : Type} {f : Int32 → PX β} {S : MS} {z : Int} (h0 : 0 ≤ z) (h1 : z < 160) : pb (pai 16 (I z)) f S = f (I (ma S 16 z)) S := pb_ok (ga16 h0 h1)
theorem gw16 {β : Type} {f : Unit → PX β} {S : MS} {z x : Int} (h0 : 0 ≤ z) (h1 : z < 160) (h2 : -2147483648 ≤ x) (h3 : x < 2147483648) : pb (psai 16 (I z) (I x)) f S = f () (seta S 16 z x) := pb_ok (wa_gen (n := 160) rfl (by decide) h0 h1 h2 h3)
theorem ga17 {S : MS} {z : Int} (h0 : 0 ≤ z) (h1 : z < 160) : pai 17 (I z) S = some (I (ma S 17 z), S) := ra_gen (n := 160) rfl (by decide) h0 h1
theorem gr17 {β : Type} {f : Int32 → PX β} {S : MS} {z : Int} (h0 : 0 ≤ z) (h1 : z < 160) : pb (pai 17 (I z)) f S = f (I (ma S 17 z)) S := pb_ok (ga17 h0 h1)
theorem gw17 {β : Type} {f : Unit → PX β} {S : MS} {z x : Int} (h0 : 0 ≤ z) (h1 : z < 160) (h2 : -2147483648 ≤ x) (h3 : x < 2147483648) : pb (psai 17 (I z) (I x)) f S = f () (seta S 17 z x) := pb_ok (wa_gen (n := 160) rfl (by decide) h0 h1 h2 h3)
theorem ga18 {S : MS} {z : Int} (h0 : 0 ≤ z) (h1 : z < 160) : pai 18 (I z) S = some (I (ma S 18 z), S) := ra_gen (n := 160) rfl (by decide) h0 h1
theorem gr18 {β : Type} {f : Int32 → PX β} {S : MS} {z : Int} (h0 : 0 ≤ z) (h1 : z < 160) : pb (pai 18 (I z)) f S = f (I (ma S 18 z)) S := pb_ok (ga18 h0 h1)
theorem gw18 {β : Type} {f : Unit → PX β} {S : MS} {z x : Int} (h0 : 0 ≤ z) (h1 : z < 160) (h2 : -2147483648 ≤ x) (h3 : x < 2147483648) : pb (psai 18 (I z) (I x)) f S = f () (seta S 18 z x) := pb_ok (wa_gen (n := 160) rfl (by decide) h0 h1 h2 h3)
theorem ga19 {S : MS} {z : Int} (h0 : 0 ≤ z) (h1 : z < 160) : pai 19 (I z) S = some (I (ma S 19 z), S) := ra_gen (n := 160) rfl (by decide) h0 h1
theorem gr19 {β : Type} {f : Int32 → PX β} {S : MS} {z : Int} (h0 : 0 ≤ z) (h1 : z < 160) : pb (pai 19 (I z)) f S = f (I (ma S 19 z)) S := pb_ok (ga19 h0 h1)
theorem gw19 {β : Type} {f : Unit → PX β} {S : MS} {z x : Int} (h0 : 0 ≤ z) (h1 : z < 160) (h2 : x = 0 ∨ x = 1) : pb (psaz 19 (I z) (I x)) f S = f () (seta S 19 z x) := pb_ok (wz_gen (n := 160) rfl (by decide) h0 h1 h2)
theorem ga20 {S : MS} {z : Int} (h0 : 0 ≤ z) (h1 : z < 160) : pal 20 (I z) S = some (ml S 20 z, S) := rl_gen (n := 160) rfl (by decide) h0 h1
theorem gr20 {β : Type} {f : Int64 → PX β} {S : MS} {z : Int} (h0 : 0 ≤ z) (h1 : z < 160) : pb (pal 20 (I z)) f S = f (ml S 20 z) S := pb_ok (ga20 h0 h1)
theorem gw20 {β : Type} {f : Unit → PX β} {S : MS} {z : Int} {x : Int64} (h0 : 0 ≤ z) (h1 : z < 160) : pb (psal 20 (I z) x) f S = f () (setl S 20 z x) := pb_ok (wl_gen (n := 160) rfl (by decide) h0 h1)
theorem ga21 {S : MS} {z : Int} (h0 : 0 ≤ z) (h1 : z < 160) : pal 21 (I z) S = some (ml S 21 z, S) := rl_gen (n := 160) rfl (by decide) h0 h1
theorem gr21 {β : Type} {f : Int64 → PX β} {S : MS} {z : Int} (h0 : 0 ≤ z) (h1 : z < 160) : pb (pal 21 (I z)) f S = f (ml S 21 z) S := pb_ok (ga21 h0 h1)
theorem gw21 {β : Type} {f : Unit → PX β} {S : MS} {z : Int} {x : Int64} (h0 : 0 ≤ z) (h1 : z < 160) : pb (psal 21 (I z) x) f S = f () (setl S 21 z x) := pb_ok (wl_gen (n := 160) rfl (by decide) h0 h1)
theorem ga22 {S : MS} {z : Int} (h0 : 0 ≤ z) (h1 : z < 160) : pal 22 (I z) S = some (ml S 22 z, S) := rl_gen (n := 160) rfl (by decide) h0 h1
theorem gr22 {β : Type} {f : Int64 → PX β} {S : MS} {z : Int} (h0 : 0 ≤ z) (h1 : z < 160) : pb (pal 22 (I z)) f S = f (ml S 22 z) S := pb_ok (ga22 h0 h1)
theorem gw22 {β : Type} {f : Unit → PX β} {S : MS} {z : Int} {x : Int64} (h0 : 0 ≤ z) (h1 : z < 160) : pb (psal 22 (I z) x) f S = f () (setl S 22 z x) := pb_ok (wl_gen (n := 160) rfl (by decide) h0 h1)
theorem ga23 {S : MS} {z : Int} (h0 : 0 ≤ z) (h1 : z < 160) : pal 23 (I z) S = some (ml S 23 z, S) := rl_gen (n := 160) rfl (by decide) h0 h1
theorem gr23 {β : Type} {f : Int64 → PX β} {S : MS} {z : Int} (h0 : 0 ≤ z) (h1 : z < 160) : pb (pal 23 (I z)) f S = f (ml S 23 z) S := pb_ok (ga23 h0 h1)
theorem gw23 {β : Type} {f : Unit → PX β} {S : MS} {z : Int} {x : Int64} (h0 : 0 ≤ z) (h1 : z < 160) : pb (psal 23 (I z) x) f S = f () (setl S 23 z x) := pb_ok (wl_gen (n := 160) rfl (by decide) h0 h1)
theorem ga24 {S : MS} {z : Int} (h0 : 0 ≤ z) (h1 : z < 9600) : pai 24 (I z) S = some (I (ma S 24 z), S) := ra_gen (n := 9600) rfl (by decide) h0 h1
theorem gr24 {β : Type} {f : Int32 → PX β} {S : MS} {z : Int} (h0 : 0 ≤ z) (h1 : z < 9600) : pb (pai 24 (I z)) f S = f (I (ma S 24 z)) S := pb_ok (ga24 h0 h1)
theorem gw24 {β : Type} {f : Unit → PX β} {S : MS} {z x : Int} (h0 : 0 ≤ z) (h1 : z < 9600) (h2 : -2147483648 ≤ x) (h3 : x < 2147483648) : pb (psai 24 (I z) (I x)) f S = f () (seta S 24 z x) := pb_ok (wa_gen (n := 9600) rfl (by decide) h0 h1 h2 h3)
theorem ga25 {S : MS} {z : Int} (h0 : 0 ≤ z) (h1 : z < 40) : pai 25 (I z) S = some (I (ma S 25 z), S) := ra_gen (n := 40) rfl (by decide) h0 h1
theorem gr25 {β : Type} {f : Int32 → PX β} {S : MS} {z : Int} (h0 : 0 ≤ z) (h1 : z < 40) : pb (pai 25 (I z)) f S = f (I (ma S 25 z)) S := pb_ok (ga25 h0 h1)
theorem gw25 {β : Type} {f : Unit → PX β} {S : MS} {z x : Int} (h0 : 0 ≤ z) (h1 : z < 40) (h2 : -2147483648 ≤ x) (h3 : x < 2147483648) : pb (psai 25 (I z) (I x)) f S = f () (seta S 25 z x) := pb_ok (wa_gen (n := 40) rfl (by decide) h0 h1 h2 h3)
theorem ga26 {S : MS} {z : Int} (h0 : 0 ≤ z) (h1 : z < 40) : pai 26 (I z) S = some (I (ma S 26 z), S) := ra_gen (n := 40) rfl (by decide) h0 h1
theorem gr26 {β : Type} {f : Int32 → PX β} {S : MS} {z : Int} (h0 : 0 ≤ z) (h1 : z < 40) : pb (pai 26 (I z)) f S = f (I (ma S 26 z)) S := pb_ok (ga26 h0 h1)
theorem gw26 {β : Type} {f : Unit → PX β} {S : MS} {z x : Int} (h0 : 0 ≤ z) (h1 : z < 40) (h2 : -2147483648 ≤ x) (h3 : x < 2147483648) : pb (psai 26 (I z) (I x)) f S = f () (seta S 26 z x) := pb_ok (wa_gen (n := 40) rfl (by decide) h0 h1 h2 h3)
theorem ga27 {S : MS} {z : Int} (h0 : 0 ≤ z) (h1 : z < 5) : pai 27 (I z) S = some (I (ma S 27 z), S) := ra_gen (n := 5) rfl (by decide) h0 h1
theorem gr27 {β : Type} {f : Int32 → PX β} {S : MS} {z : Int} (h0 : 0 ≤ z) (h1 : z < 5) : pb (pai 27 (I z)) f S = f (I (ma S 27 z)) S := pb_ok (ga27 h0 h1)
theorem gw27 {β : Type} {f : Unit → PX β} {S : MS} {z x : Int} (h0 : 0 ≤ z) (h1 : z < 5) (h2 : -2147483648 ≤ x) (h3 : x < 2147483648) : pb (psai 27 (I z) (I x)) f S = f () (seta S 27 z x) := pb_ok (wa_gen (n := 5) rfl (by decide) h0 h1 h2 h3)
theorem ga28 {S : MS} {z : Int} (h0 : 0 ≤ z) (h1 : z < 5) : pai 28 (I z) S = some (I (ma S 28 z), S) := ra_gen (n := 5) rfl (by decide) h0 h1
theorem gr28 {β : Type} {f : Int32 → PX β} {S : MS} {z : Int} (h0 : 0 ≤ z) (h1 : z < 5) : pb (pai 28 (I z)) f S = f (I (ma S 28 z)) S := pb_ok (ga28 h0 h1)
theorem gw28 {β : Type} {f : Unit → PX β} {S : MS} {z x : Int} (h0 : 0 ≤ z) (h1 : z < 5) (h2 : -2147483648 ≤ x) (h3 : x < 2147483648) : pb (psai 28 (I z) (I x)) f S = f () (seta S 28 z x) := pb_ok (wa_gen (n := 5) rfl (by decide) h0 h1 h2 h3)
theorem ga31 {S : MS} {z : Int} (h0 : 0 ≤ z) (h1 : z < 150) : pai 31 (I z) S = some (I (ma S 31 z), S) := ra_gen (n := 150) rfl (by decide) h0 h1
theorem gr31 {β : Type} {f : Int32 → PX β} {S : MS} {z : Int} (h0 : 0 ≤ z) (h1 : z < 150) : pb (pai 31 (I z)) f S = f (I (ma S 31 z)) S := pb_ok (ga31 h0 h1)
theorem gw31 {β : Type} {f : Unit → PX β} {S : MS} {z x : Int} (h0 : 0 ≤ z) (h1 : z < 150) (h2 : -2147483648 ≤ x) (h3 : x < 2147483648) : pb (psai 31 (I z) (I x)) f S = f () (seta S 31 z x) := pb_ok (wa_gen (n := 150) rfl (by decide) h0 h1 h2 h3)
theorem ga32 {S : MS} {z : Int} (h0 : 0 ≤ z) (h1 : z < 150) : pai 32 (I z) S = some (I (ma S 32 z), S) := ra_gen (n := 150) rfl (by decide) h0 h1
theorem gr32 {β : Type} {f : Int32 → PX β} {S : MS} {z : Int} (h0 : 0 ≤ z) (h1 : z < 150) : pb (pai 32 (I z)) f S = f (I (ma S 32 z)) S := pb_ok (ga32 h0 h1)
theorem gw32 {β : Type} {f : Unit → PX β} {S : MS} {z x : Int} (h0 : 0 ≤ z) (h1 : z < 150) (h2 : -2147483648 ≤ x) (h3 : x < 2147483648) : pb (psai 32 (I z) (I x)) f S = f () (seta S 32 z x) := pb_ok (wa_gen (n := 150) rfl (by decide) h0 h1 h2 h3)
theorem ga33 {S : MS} {z : Int} (h0 : 0 ≤ z) (h1 : z < 150) : pai 33 (I z) S = some (I (ma S 33 z), S) := ra_gen (n := 150) rfl (by decide) h0 h1
theorem gr33 {β : Type} {f : Int32 → PX β} {S : MS} {z : Int} (h0 : 0 ≤ z) (h1 : z < 150) : pb (pai 33 (I z)) f S = f (I (ma S 33 z)) S := pb_ok (ga33 h0 h1)
theorem gw33 {β : Type} {f : Unit → PX β} {S : MS} {z x : Int} (h0 : 0 ≤ z) (h1 : z < 150) (h2 : -2147483648 ≤ x) (h3 : x < 2147483648) : pb (psai 33 (I z) (I x)) f S = f () (seta S 33 z x) := pb_ok (wa_gen (n := 150) rfl (by decide) h0 h1 h2 h3)
theorem ga34 {S : MS} {z : Int} (h0 : 0 ≤ z) (h1 : z < 150) : pai 34 (I z) S = some (I (ma S 34 z), S) := ra_gen (n := 150) rfl (by decide) h0 h1
theorem gr34 {β : Type} {f : Int32 → PX β} {S : MS} {z : Int} (h0 : 0 ≤ z) (h1 : z < 150) : pb (pai 34 (I z)) f S = f (I (ma S 34 z)) S := pb_ok (ga34 h0 h1)
theorem gw34 {β : Type} {f : Unit → PX β} {S : MS} {z x : Int} (h0 : 0 ≤ z) (h1 : z < 150) (h2 : -2147483648 ≤ x) (h3 : x < 2147483648) : pb (psai 34 (I z) (I x)) f S = f () (seta S 34 z x) := pb_ok (wa_gen (n := 150) rfl (by decide) h0 h1 h2 h3)
theorem ga35 {S : MS} {z : Int} (h0 : 0 ≤ z) (h1 : z < 150) : pai 35 (I z) S = some (I (ma S 35 z), S) := ra_gen (n := 150) rfl (by decide) h0 h1
theorem gr35 {β : Type} {f : Int32 → PX β} {S : MS} {z : Int} (h0 : 0 ≤ z) (h1 : z < 150) : pb (pai 35 (I z)) f S = f (I (ma S 35 z)) S := pb_ok (ga35 h0 h1)
theorem gw35 {β : Type} {f : Unit → PX β} {S : MS} {z x : Int} (h0 : 0 ≤ z) (h1 : z < 150) (h2 : -2147483648 ≤ x) (h3 : x < 2147483648) : pb (psai 35 (I z) (I x)) f S = f () (seta S 35 z x) := pb_ok (wa_gen (n := 150) rfl (by decide) h0 h1 h2 h3)
theorem ga36 {S : MS} {z : Int} (h0 : 0 ≤ z) (h1 : z < 150) : pai 36 (I z) S = some (I (ma S 36 z), S) := ra_gen (n := 150) rfl (by decide) h0 h1
theorem gr36 {β : Type} {f : Int32 → PX β} {S : MS} {z : Int} (h0 : 0 ≤ z) (h1 : z < 150) : pb (pai 36 (I z)) f S = f (I (ma S 36 z)) S := pb_ok (ga36 h0 h1)
theorem gw36 {β : Type} {f : Unit → PX β} {S : MS} {z x : Int} (h0 : 0 ≤ z) (h1 : z < 150) (h2 : -2147483648 ≤ x) (h3 : x < 2147483648) : pb (psai 36 (I z) (I x)) f S = f () (seta S 36 z x) := pb_ok (wa_gen (n := 150) rfl (by decide) h0 h1 h2 h3)
theorem ga37 {S : MS} {z : Int} (h0 : 0 ≤ z) (h1 : z < 150) : pai 37 (I z) S = some (I (ma S 37 z), S) := ra_gen (n := 150) rfl (by decide) h0 h1
theorem gr37 {β : Type} {f : Int32 → PX β} {S : MS} {z : Int} (h0 : 0 ≤ z) (h1 : z < 150) : pb (pai 37 (I z)) f S = f (I (ma S 37 z)) S := pb_ok (ga37 h0 h1)
theorem gw37 {β : Type} {f : Unit → PX β} {S : MS} {z x : Int} (h0 : 0 ≤ z) (h1 : z < 150) (h2 : -2147483648 ≤ x) (h3 : x < 2147483648) : pb (psai 37 (I z) (I x)) f S = f () (seta S 37 z x) := pb_ok (wa_gen (n := 150) rfl (by decide) h0 h1 h2 h3)
theorem ga38 {S : MS} {z : Int} (h0 : 0 ≤ z) (h1 : z < 150) : pai 38 (I z) S = some (I (ma S 38 z), S) := ra_gen (n := 150) rfl (by decide) h0 h1
theorem gr38 {β : Type} {f : Int32 → PX β} {S : MS} {z : Int} (h0 : 0 ≤ z) (h1 : z < 150) : pb (pai 38 (I z)) f S = f (I (ma S 38 z)) S := pb_ok (ga38 h0 h1)
theorem gw38 {β : Type} {f : Unit → PX β} {S : MS} {z x : Int} (h0 : 0 ≤ z) (h1 : z < 150) (h2 : -2147483648 ≤ x) (h3 : x < 2147483648) : pb (psai 38 (I z) (I x)) f S = f () (seta S 38 z x) := pb_ok (wa_gen (n := 150) rfl (by decide) h0 h1 h2 h3)
theorem ga39 {S : MS} {z : Int} (h0 : 0 ≤ z) (h1 : z < 150) : pai 39 (I z) S = some (I (ma S 39 z), S) := ra_gen (n := 150) rfl (by decide) h0 h1
theorem gr39 {β : Type} {f : Int32 → PX β} {S : MS} {z : Int} (h0 : 0 ≤ z) (h1 : z < 150) : pb (pai 39 (I z)) f S = f (I (ma S 39 z)) S := pb_ok (ga39 h0 h1)
theorem gw39 {β : Type} {f : Unit → PX β} {S : MS} {z x : Int} (h0 : 0 ≤ z) (h1 : z < 150) (h2 : -2147483648 ≤ x) (h3 : x < 2147483648) : pb (psai 39 (I z) (I x)) f S = f () (seta S 39 z x) := pb_ok (wa_gen (n := 150) rfl (by decide) h0 h1 h2 h3)
theorem ga40 {S : MS} {z : Int} (h0 : 0 ≤ z) (h1 : z < 150) : pai 40 (I z) S = some (I (ma S 40 z), S) := ra_gen (n := 150) rfl (by decide) h0 h1
theorem gr40 {β : Type} {f : Int32 → PX β} {S : MS} {z : Int} (h0 : 0 ≤ z) (h1 : z < 150) : pb (pai 40 (I z)) f S = f (I (ma S 40 z)) S := pb_ok (ga40 h0 h1)
theorem gw40 {β : Type} {f : Unit → PX β} {S : MS} {z x : Int} (h0 : 0 ≤ z) (h1 : z < 150) (h2 : -2147483648 ≤ x) (h3 : x < 2147483648) : pb (psai 40 (I z) (I x)) f S = f () (seta S 40 z x) := pb_ok (wa_gen (n := 150) rfl (by decide) h0 h1 h2 h3)
theorem ga41 {S : MS} {z : Int} (h0 : 0 ≤ z) (h1 : z < 150) : pai 41 (I z) S = some (I (ma S 41 z), S) := ra_gen (n := 150) rfl (by decide) h0 h1
theorem gr41 {β : Type} {f : Int32 → PX β} {S : MS} {z : Int} (h0 : 0 ≤ z) (h1 : z < 150) : pb (pai 41 (I z)) f S = f (I (ma S 41 z)) S := pb_ok (ga41 h0 h1)
theorem gw41 {β : Type} {f : Unit → PX β} {S : MS} {z x : Int} (h0 : 0 ≤ z) (h1 : z < 150) (h2 : -2147483648 ≤ x) (h3 : x < 2147483648) : pb (psai 41 (I z) (I x)) f S = f () (seta S 41 z x) := pb_ok (wa_gen (n := 150) rfl (by decide) h0 h1 h2 h3)
theorem ga42 {S : MS} {z : Int} (h0 : 0 ≤ z) (h1 : z < 150) : pai 42 (I z) S = some (I (ma S 42 z), S) := ra_gen (n := 150) rfl (by decide) h0 h1
theorem gr42 {β : Type} {f : Int32 → PX β} {S : MS} {z : Int} (h0 : 0 ≤ z) (h1 : z < 150) : pb (pai 42 (I z)) f S = f (I (ma S 42 z)) S := pb_ok (ga42 h0 h1)
theorem gw42 {β : Type} {f : Unit → PX β} {S : MS} {z x : Int} (h0 : 0 ≤ z) (h1 : z < 150) (h2 : x = 0 ∨ x = 1) : pb (psaz 42 (I z) (I x)) f S = f () (seta S 42 z x) := pb_ok (wz_gen (n := 150) rfl (by decide) h0 h1 h2)
theorem ga43 {S : MS} {z : Int} (h0 : 0 ≤ z) (h1 : z < 150) : pai 43 (I z) S = some (I (ma S 43 z), S) := ra_gen (n := 150) rfl (by decide) h0 h1
theorem gr43 {β : Type} {f : Int32 → PX β} {S : MS} {z : Int} (h0 : 0 ≤ z) (h1 : z < 150) : pb (pai 43 (I z)) f S = f (I (ma S 43 z)) S := pb_ok (ga43 h0 h1)
theorem gw43 {β : Type} {f : Unit → PX β} {S : MS} {z x : Int} (h0 : 0 ≤ z) (h1 : z < 150) (h2 : x = 0 ∨ x = 1) : pb (psaz 43 (I z) (I x)) f S = f () (seta S 43 z x) := pb_ok (wz_gen (n := 150) rfl (by decide) h0 h1 h2)
theorem ga44 {S : MS} {z : Int} (h0 : 0 ≤ z) (h1 : z < 1650) : pai 44 (I z) S = some (I (ma S 44 z), S) := ra_gen (n := 1650) rfl (by decide) h0 h1
theorem gr44 {β : Type} {f : Int32 → PX β} {S : MS} {z : Int} (h0 : 0 ≤ z) (h1 : z < 1650) : pb (pai 44 (I z)) f S = f (I (ma S 44 z)) S := pb_ok (ga44 h0 h1)
theorem gw44 {β : Type} {f : Unit → PX β} {S : MS} {z x : Int} (h0 : 0 ≤ z) (h1 : z < 1650) (h2 : x = 0 ∨ x = 1) : pb (psaz 44 (I z) (I x)) f S = f () (seta S 44 z x) := pb_ok (wz_gen (n := 1650) rfl (by decide) h0 h1 h2)
theorem gl0 : (0 : Int32) = I 0 := by decide
theorem gl1 : (1 : Int32) = I 1 := by decide
theorem gl2 : (2 : Int32) = I 2 := by decide
theorem gl3 : (3 : Int32) = I 3 := by decide
theorem gl4 : (4 : Int32) = I 4 := by decide
theorem gl5 : (5 : Int32) = I 5 := by decide
theorem gl6 : (6 : Int32) = I 6 := by decide
theorem gl7 : (7 : Int32) = I 7 := by decide
theorem gl8 : (8 : Int32) = I 8 := by decide
theorem gl10 : (10 : Int32) = I 10 := by decide
theorem gl12 : (12 : Int32) = I 12 := by decide
theorem gl16 : (16 : Int32) = I 16 := by decide
theorem gl23 : (23 : Int32) = I 23 := by decide
theorem gl24 : (24 : Int32) = I 24 := by decide
theorem gl28 : (28 : Int32) = I 28 := by decide
theorem gl31 : (31 : Int32) = I 31 := by decide
theorem gl32 : (32 : Int32) = I 32 := by decide
theorem gl40 : (40 : Int32) = I 40 := by decide
theorem gl48 : (48 : Int32) = I 48 := by decide
theorem gl59 : (59 : Int32) = I 59 := by decide
theorem gl60 : (60 : Int32) = I 60 := by decide
theorem gl61 : (61 : Int32) = I 61 := by decide
theorem gl63 : (63 : Int32) = I 63 := by decide
theorem gl97 : (97 : Int32) = I 97 := by decide
theorem gl100 : (100 : Int32) = I 100 := by decide
theorem gl127 : (127 : Int32) = I 127 := by decide
theorem gl150 : (150 : Int32) = I 150 := by decide
theorem gl160 : (160 : Int32) = I 160 := by decide
theorem gl305 : (305 : Int32) = I 305 := by decide
theorem gl1439 : (1439 : Int32) = I 1439 := by decide
theorem gl1500 : (1500 : Int32) = I 1500 := by decide
theorem gl1600 : (1600 : Int32) = I 1600 := by decide
theorem gl1649 : (1649 : Int32) = I 1649 := by decide
theorem gl1650 : (1650 : Int32) = I 1650 := by decide
theorem gl2000 : (2000 : Int32) = I 2000 := by decide
theorem gl2048 : (2048 : Int32) = I 2048 := by decide
theorem gl9600 : (9600 : Int32) = I 9600 := by decide
theorem ma_seta (S : MS) (K J : Nat) (z y v : Int) : ma (seta S K z v) J y = if J = K ∧ y = z then v else ma S J y := id rfl
theorem ml_seta (S : MS) (K J : Nat) (z y v : Int) : ml (seta S K z v) J y = ml S J y := id rfl
theorem mf_seta (S : MS) (K J : Nat) (z v : Int) : mf (seta S K z v) J = mf S J := id rfl
theorem ma_setl (S : MS) (K J : Nat) (z y : Int) (v : Int64) : ma (setl S K z v) J y = ma S J y := id rfl
theorem ml_setl (S : MS) (K J : Nat) (z y : Int) (v : Int64) : ml (setl S K z v) J y = if J = K ∧ y = z then v else ml S J y := id rfl
theorem mf_setl (S : MS) (K J : Nat) (z : Int) (v : Int64) : mf (setl S K z v) J = mf S J := id rfl
theorem ma_setf (S : MS) (K J : Nat) (y v : Int) : ma (setf S K v) J y = ma S J y := id rfl
theorem ml_setf (S : MS) (K J : Nat) (y v : Int) : ml (setf S K v) J y = ml S J y := id rfl
theorem mf_setf (S : MS) (K J : Nat) (v : Int) : mf (setf S K v) J = if J = K then v else mf S J := id rfl
/-- a bit of a set -/
def hb (x p : Int) : Bool := decide ((I x >>> (I p &&& I 31)) &&& I 1 = I 1)
theorem and1 (x : Int32) : x &&& I 1 = I 0 ∨ x &&& I 1 = I 1 := by
  have h : ∀ b : BitVec 32, b &&& 1#32 = 0#32 ∨ b &&& 1#32 = 1#32 := by
    intro b
    rw [BitVec.and_one_eq_setWidth_ofBool_getLsbD]
    cases b.getLsbD 0 <;> decide
  rcases h x.toBitVec with q | q
  · exact Or.inl (Int32.toBitVec_inj.mp (by rw [Int32.toBitVec_and]; exact q))
  · exact Or.inr (Int32.toBitVec_inj.mp (by rw [Int32.toBitVec_and]; exact q))
theorem hb_eq (x p : Int) : ((I x >>> (I p &&& I 31)) &&& I 1 = I 1) = (hb x p = true) := by unfold hb; simp
theorem hb_eq0 (x p : Int) : ((I x >>> (I p &&& I 31)) &&& I 1 = I 0) = (hb x p = false) := by
  unfold hb
  rcases and1 (I x >>> (I p &&& I 31)) with q | q
  · rw [q]; exact propext ⟨fun _ => by decide, fun _ => rfl⟩
  · rw [q]; exact propext ⟨fun h => absurd h (by decide), fun h => absurd h (by decide)⟩
/-- a bit of a set of days -/
def hl (x : Int64) (p : Int) : Bool := decide ((x >>> ((I p).toInt64 &&& 63)) &&& 1 = 1)
theorem hl_eq (x : Int64) (p : Int) : ((x >>> ((I p).toInt64 &&& 63)) &&& 1 = 1) = (hl x p = true) := by unfold hl; simp
theorem b2i_ne (b : Bool) : (¬ b2i b = I 0) = (b = true) := by cases b <;> simp <;> decide
theorem b2i_eq (b : Bool) : (b2i b = I 0) = (b = false) := by cases b <;> simp <;> decide
theorem b2i_I (b : Bool) : b2i b = I (if b then 1 else 0) := by cases b <;> decide
