theorem I_add (a b : Int) : I a + I b = I (a + b) := (Int32.ofInt_add a b).symm
theorem I_sub (a b : Int) : I a - I b = I (a - b) := (Int32.ofInt_sub a b).symm
theorem I_mul (a b : Int) : I a * I b = I (a * b) := (Int32.ofInt_mul a b).symm
theorem I_neg (a : Int) : -(I a) = I (-a) := (Int32.ofInt_neg a).symm
theorem I_inj {a b : Int} (ha : -2147483648 ≤ a) (ha' : a < 2147483648) (hb : -2147483648 ≤ b) (hb' : b < 2147483648) : I a = I b ↔ a = b := by
  constructor
  · intro h
    have := congrArg Int32.toInt h
    rwa [toInt_I ha ha', toInt_I hb hb'] at this
  · intro h; rw [h]
theorem I_lt {a b : Int} (ha : -2147483648 ≤ a) (ha' : a < 2147483648) (hb : -2147483648 ≤ b) (hb' : b < 2147483648) : I a < I b ↔ a < b := by rw [Int32.lt_iff_toInt_lt, toInt_I ha ha', toInt_I hb hb']
theorem I_le {a b : Int} (ha : -2147483648 ≤ a) (ha' : a < 2147483648) (hb : -2147483648 ≤ b) (hb' : b < 2147483648) : I a ≤ I b ↔ a ≤ b := by rw [Int32.le_iff_toInt_le, toInt_I ha ha', toInt_I hb hb']
theorem I_of (x : Int32) : ∃ z : Int, -2147483648 ≤ z ∧ z < 2147483648 ∧ x = I z := ⟨x.toInt, x.le_toInt, x.toInt_lt, (I_toInt x).symm⟩
def setf (S : MS) (K : Nat) (v : Int) : MS := (S.1, S.2.1, fun J => if J = K then v else S.2.2 J)
theorem gl0 : (0 : Int32) = I 0 := by decide
theorem gl1 : (1 : Int32) = I 1 := by decide
theorem gl2 : (2 : Int32) = I 2 := by decide
theorem gl3 : (3 : Int32) = I 3 := by decide
theorem gl4 : (4 : Int32) = I 4 := by decide
theorem gl5 : (5 : Int32) = I 5 := by decide
theorem gl6 : (6 : Int32) = I 6 := by decide
theorem gl7 : (7 : Int32) = I 7 := by decide
theorem gl8 : (8 : Int32) = I 8 := by decide
theorem gl10 : (10 : Int32) = I 10 := by decide
theorem gl12 : (12 : Int32) = I 12 := by decide
theorem gl16 : (16 : Int32) = I 16 := by decide
theorem gl23 : (23 : Int32) = I 23 := by decide
theorem gl24 : (24 : Int32) = I 24 := by decide
theorem gl28 : (28 : Int32) = I 28 := by decide
theorem gl31 : (31 : Int32) = I 31 := by decide
theorem gl32 : (32 : Int32) = I 32 := by decide
theorem gl40 : (40 : Int32) = I 40 := by decide
theorem gl48 : (48 : Int32) = I 48 := by decide
theorem gl59 : (59 : Int32) = I 59 := by decide
theorem gl60 : (60 : Int32) = I 60 := by decide
theorem gl61 : (61 : Int32) = I 61 := by decide
theorem gl63 : (63 : Int32) = I 63 := by decide
theorem gl97 : (97 : Int32) = I 97 := by decide
theorem gl100 : (100 : Int32) = I 100 := by decide
theorem gl127 : (127 : Int32) = I 127 := by decide
theorem gl150 : (150 : Int32) = I 150 := by decide
theorem gl160 : (160 : Int32) = I 160 := by decide
theorem gl305 : (305 : Int32) = I 305 := by decide
theorem gl1439 : (1439 : Int32) = I 1439 := by decide
theorem gl1500 : (1500 : Int32) = I 1500 := by decide
theorem gl1600 : (1600 : Int32) = I 1600 := by decide
theorem gl1649 : (1649 : Int32) = I 1649 := by decide
theorem gl1650 : (1650 : Int32) = I 1650 := by decide
theorem gl2000 : (2000 : Int32) = I 2000 := by decide
theorem gl2048 : (2048 : Int32) = I 2048 := by decide
theorem gl9600 : (9600 : Int32) = I 9600 := by decide
theorem ma_seta (S : MS) (K J : Nat) (z y v : Int) : ma (seta S K z v) J y = if J = K ∧ y = z then v else ma S J y := id rfl
theorem ml_seta (S : MS) (K J : Nat) (z y v : Int) : ml (seta S K z v) J y = ml S J y := id rfl
theorem mf_seta (S : MS) (K J : Nat) (z v : Int) : mf (seta S K z v) J = mf S J := id rfl
theorem ma_setl (S : MS) (K J : Nat) (z y : Int) (v : Int64) : ma (setl S K z v) J y = ma S J y := id rfl
theorem ml_setl (S : MS) (K J : Nat) (z y : Int) (v : Int64) : ml (setl S K z v) J y = if J = K ∧ y = z then v else ml S J y := id rfl
theorem mf_setl (S : MS) (K J : Nat) (z : Int) (v : Int64) : mf (setl S K z v) J = mf S J := id rfl
theorem ma_setf (S : MS) (K J : Nat) (y v : Int) : ma (setf S K v) J y = ma S J y := id rfl
theorem ml_setf (S : MS) (K J : Nat) (y v : Int) : ml (setf S K v) J y = ml S J y := id rfl
theorem mf_setf (S : MS) (K J : Nat) (v : Int) : mf (setf S K v) J = if J = K then v else mf S J := id rfl
def hb (x p : Int) : Bool := decide ((I x >>> (I p &&& I 31)) &&& I 1 = I 1)
theorem and1 (x : Int32) : x &&& I 1 = I 0 ∨ x &&& I 1 = I 1 := by
  have h : ∀ b : BitVec 32, b &&& 1#32 = 0#32 ∨ b &&& 1#32 = 1#32 := by
    intro b
    rw [BitVec.and_one_eq_setWidth_ofBool_getLsbD]
    cases b.getLsbD 0 <;> decide
  rcases h x.toBitVec with q | q
  · exact Or.inl (Int32.toBitVec_inj.mp (by rw [Int32.toBitVec_and]; exact q))
  · exact Or.inr (Int32.toBitVec_inj.mp (by rw [Int32.toBitVec_and]; exact q))
theorem hb_eq (x p : Int) : ((I x >>> (I p &&& I 31)) &&& I 1 = I 1) = (hb x p = true) := by unfold hb; simp
theorem hb_eq0 (x p : Int) : ((I x >>> (I p &&& I 31)) &&& I 1 = I 0) = (hb x p = false) := by
  unfold hb
  rcases and1 (I x >>> (I p &&& I 31)) with q | q
  · rw [q]; exact propext ⟨fun _ => by decide, fun _ => rfl⟩
  · rw [q]; exact propext ⟨fun h => absurd h (by decide), fun h => absurd h (by decide)⟩
def hl (x : Int64) (p : Int) : Bool := decide ((x >>> ((I p).toInt64 &&& 63)) &&& 1 = 1)
theorem hl_eq (x : Int64) (p : Int) : ((x >>> ((I p).toInt64 &&& 63)) &&& 1 = 1) = (hl x p = true) := by unfold hl; simp
theorem b2i_ne (b : Bool) : (¬ b2i b = I 0) = (b = true) := by cases b <;> simp <;> decide
theorem b2i_eq (b : Bool) : (b2i b = I 0) = (b = false) := by cases b <;> simp <;> decide
theorem b2i_I (b : Bool) : b2i b = I (if b then 1 else 0) := by cases b <;> decide
