theorem and8 {h l a b : Nat} (hl : l < 256) (hb : b < 256) : (256 * h + l) &&& (256 * a + b) = 256 * (h &&& a) + (l &&& b) := by
  have hlb : l &&& b < 2 ^ 8 := Nat.lt_of_le_of_lt Nat.and_le_left hl
  apply Nat.eq_of_testBit_eq
  intro i
  rw [show (256 : Nat) = 2 ^ 8 from rfl, Nat.testBit_and, Nat.testBit_two_pow_mul_add h (show l < 2 ^ 8 from hl), Nat.testBit_two_pow_mul_add a (show b < 2 ^ 8 from hb), Nat.testBit_two_pow_mul_add _ hlb]
  by_cases c : i < 8
  · rw [if_pos c, if_pos c, if_pos c, Nat.testBit_and]
  · rw [if_neg c, if_neg c, if_neg c, Nat.testBit_and]
theorem shr8 {h l a b s : Nat} (hl : l < 256) (hs : s ≤ 8) (hb : b < 2 ^ (8 - s)) : ((256 * h + l) >>> s) &&& (256 * a + b) = 256 * ((h >>> s) &&& a) + ((l >>> s) &&& b) := by
  have hb8 : b < 2 ^ 8 := Nat.lt_of_lt_of_le hb (Nat.pow_le_pow_right (by decide) (by omega))
  have hlb : (l >>> s) &&& b < 2 ^ 8 := Nat.lt_of_le_of_lt Nat.and_le_right hb8
  apply Nat.eq_of_testBit_eq
  intro i
  rw [show (256 : Nat) = 2 ^ 8 from rfl, Nat.testBit_and, Nat.testBit_shiftRight, Nat.testBit_two_pow_mul_add h (show l < 2 ^ 8 from hl), Nat.testBit_two_pow_mul_add a hb8, Nat.testBit_two_pow_mul_add _ hlb]
  by_cases c : i < 8
  · rw [if_pos c, if_pos c, Nat.testBit_and, Nat.testBit_shiftRight]
    by_cases d : s + i < 8
    · rw [if_pos d]
    · rw [Nat.testBit_lt_two_pow (Nat.lt_of_lt_of_le hb (Nat.pow_le_pow_right (by decide) (by omega))), Bool.and_false, Bool.and_false]
  · rw [if_neg c, if_neg c, if_neg (by omega), Nat.testBit_and, Nat.testBit_shiftRight, show s + i - 8 = s + (i - 8) by omega]
def mk8 (c : Nat) : Nat → Nat
  | 0 => 0
  | k + 1 => 256 * mk8 c k + c
def sw1 (k x : Nat) : Nat := x - ((x >>> 1) &&& mk8 85 k)
def sw2 (k y : Nat) : Nat := (y &&& mk8 51 k) + ((y >>> 2) &&& mk8 51 k)
def sw3 (k z : Nat) : Nat := (z + (z >>> 4)) &&& mk8 15 k
def lo1 (l : Nat) : Nat := l - ((l >>> 1) &&& 85)
def lo2 (l : Nat) : Nat := (l &&& 51) + ((l >>> 2) &&& 51)
def p8 (l : Nat) : Nat := (lo2 (lo1 l) + lo2 (lo1 l) / 16) % 16
theorem tab1 : ∀ l, l < 256 → lo1 l < 256 ∧ lo2 (lo1 l) % 16 ≤ 4 ∧ lo2 (lo1 l) / 16 ≤ 4 ∧ p8 l ≤ 8 := by decide +kernel
theorem sw1_s {k h l : Nat} (hl : l < 256) : sw1 (k + 1) (256 * h + l) = 256 * sw1 k h + lo1 l := by
  unfold sw1 lo1
  show 256 * h + l - (((256 * h + l) >>> 1) &&& (256 * mk8 85 k + 85)) = _
  rw [shr8 hl (by decide) (by decide)]
  have h1 : (h >>> 1) &&& mk8 85 k ≤ h := Nat.le_trans Nat.and_le_left (by rw [Nat.shiftRight_eq_div_pow]; exact Nat.div_le_self _ _)
  have h2 : (l >>> 1) &&& 85 ≤ l := Nat.le_trans Nat.and_le_left (by rw [Nat.shiftRight_eq_div_pow]; exact Nat.div_le_self _ _)
  omega
theorem sw2_s {k h l : Nat} (hl : l < 256) : sw2 (k + 1) (256 * h + l) = 256 * sw2 k h + lo2 l := by
  unfold sw2 lo2
  show ((256 * h + l) &&& (256 * mk8 51 k + 51)) + (((256 * h + l) >>> 2) &&& (256 * mk8 51 k + 51)) = _
  rw [and8 hl (by decide), shr8 hl (by decide) (by decide)]
  omega
theorem sw12_s {k x : Nat} : sw2 (k + 1) (sw1 (k + 1) x) = 256 * sw2 k (sw1 k (x / 256)) + lo2 (lo1 (x % 256)) := by
  have hx : x = 256 * (x / 256) + x % 256 := by omega
  have hm : x % 256 < 256 := Nat.mod_lt _ (by decide)
  have e : sw1 (k + 1) x = 256 * sw1 k (x / 256) + lo1 (x % 256) := by
    have := sw1_s (k := k) (h := x / 256) hm
    rwa [← hx] at this
  rw [e, sw2_s (tab1 _ hm).1]
theorem sw12_lo (k x : Nat) : sw2 k (sw1 k x) % 16 ≤ 4 := by
  cases k with
  | zero =>
    show ((_ &&& 0) + (_ &&& 0)) % 16 ≤ 4
    rw [Nat.and_zero, Nat.and_zero]; decide
  | succ k =>
    have := tab1 (x % 256) (Nat.mod_lt _ (by decide))
    rw [sw12_s]; omega
def popk (k x : Nat) : Nat := sw3 k (sw2 k (sw1 k x))
theorem popk_s {k x : Nat} : popk (k + 1) x = 256 * popk k (x / 256) + p8 (x % 256) := by
  have h1 := sw12_lo k (x / 256)
  have h2 := tab1 (x % 256) (Nat.mod_lt _ (by decide))
  unfold popk p8
  rw [sw12_s]
  generalize sw2 k (sw1 k (x / 256)) = H at h1 ⊢
  generalize lo2 (lo1 (x % 256)) = l at h2 ⊢
  unfold sw3
  show ((256 * H + l) + ((256 * H + l) >>> 4)) &&& (256 * mk8 15 k + 15) = 256 * ((H + (H >>> 4)) &&& mk8 15 k) + (l + l / 16) % 16
  rw [Nat.shiftRight_eq_div_pow, Nat.shiftRight_eq_div_pow, show (2 : Nat) ^ 4 = 16 from rfl]
  rw [show 256 * H + l + (256 * H + l) / 16 = 256 * (H + H / 16) + (16 * (H % 16) + l + l / 16) by omega, and8 (by omega) (by decide)]
  congr 1
  rw [show (15 : Nat) = 2 ^ 4 - 1 from rfl, Nat.and_two_pow_sub_one_eq_mod]
  omega
def bsum : Nat → Nat → Nat
  | 0, _ => 0
  | k + 1, x => p8 (x % 256) + bsum k (x / 256)
theorem fold8 (x : Nat) (hx : x < 2 ^ 64) : popk 8 x < 2 ^ 60 ∧ (((popk 8 x + popk 8 x / 256) + (popk 8 x + popk 8 x / 256) / 65536) + ((popk 8 x + popk 8 x / 256) + (popk 8 x + popk 8 x / 256) / 65536) / 4294967296) % 128 = bsum 8 x ∧ bsum 8 x ≤ 64 := by
  rw [popk_s, popk_s, popk_s, popk_s, popk_s, popk_s, popk_s, popk_s]
  have e0 : ∀ y, popk 0 y = 0 := fun y => by show (_ &&& 0) = 0; exact Nat.and_zero _
  rw [e0]
  simp only [bsum]
  have t := fun l : Nat => (tab1 (l % 256) (Nat.mod_lt _ (by decide))).2.2.2
  have t0 := t x
  have t1 := t (x / 256)
  have t2 := t (x / 256 / 256)
  have t3 := t (x / 256 / 256 / 256)
  have t4 := t (x / 256 / 256 / 256 / 256)
  have t5 := t (x / 256 / 256 / 256 / 256 / 256)
  have t6 := t (x / 256 / 256 / 256 / 256 / 256 / 256)
  have t7 := t (x / 256 / 256 / 256 / 256 / 256 / 256 / 256)
  generalize p8 (x % 256) = a0 at *
  generalize p8 (x / 256 % 256) = a1 at *
  generalize p8 (x / 256 / 256 % 256) = a2 at *
  generalize p8 (x / 256 / 256 / 256 % 256) = a3 at *
  generalize p8 (x / 256 / 256 / 256 / 256 % 256) = a4 at *
  generalize p8 (x / 256 / 256 / 256 / 256 / 256 % 256) = a5 at *
  generalize p8 (x / 256 / 256 / 256 / 256 / 256 / 256 % 256) = a6 at *
  generalize p8 (x / 256 / 256 / 256 / 256 / 256 / 256 / 256 % 256) = a7 at *
  clear t hx
  rw [show 256 * 0 + a7 = a7 by omega]
  generalize h6 : 256 * a7 + a6 = w6
  generalize h5 : 256 * w6 + a5 = w5
  generalize h4 : 256 * w5 + a4 = w4
  generalize h3 : 256 * w4 + a3 = w3
  generalize h2 : 256 * w3 + a2 = w2
  generalize h1 : 256 * w2 + a1 = w1
  generalize h0 : 256 * w1 + a0 = w0
  have b6 : w6 ≤ 2056 := by omega
  have b5 : w5 ≤ 526344 := by omega
  have b4 : w4 ≤ 134744072 := by omega
  have b3 : w3 ≤ 34494482440 := by omega
  have b2 : w2 ≤ 8830587504648 := by omega
  have b1 : w1 ≤ 2260630401189896 := by omega
  have b0 : w0 < 2 ^ 60 := by omega
  have d1 : w0 / 256 = w1 := by omega
  have d2 : (w0 + w1) / 65536 = w2 + w3 := by omega
  have d3 : (w0 + w1 + (w2 + w3)) / 4294967296 = w4 + w5 + (w6 + a7) := by
    have e0 : w0 = 4294967296 * w4 + (16777216 * a3 + 65536 * a2 + 256 * a1 + a0) := by omega
    have e1 : w1 = 4294967296 * w5 + (16777216 * a4 + 65536 * a3 + 256 * a2 + a1) := by omega
    have e2 : w2 = 4294967296 * w6 + (16777216 * a5 + 65536 * a4 + 256 * a3 + a2) := by omega
    have e3 : w3 = 4294967296 * a7 + (16777216 * a6 + 65536 * a5 + 256 * a4 + a3) := by omega
    clear h0 h1 h2 h3 h4 h5 h6 b0 b1 b2 b3 b4 b5 b6 d1 d2
    omega
  rw [d1, d2, d3]
  refine ⟨b0, ?_, by omega⟩
  have e : w0 + w1 + (w2 + w3) + (w4 + w5 + (w6 + a7)) = 256 * (w1 + w2 + w3 + w4 + w5 + w6 + a7) + (a0 + a1 + a2 + a3 + a4 + a5 + a6 + a7) := by omega
  rw [e]
  clear h0 h1 h2 h3 h4 h5 h6 b0 b1 b2 b3 b4 b5 b6 d1 d2 d3 e
  omega
def cb (n : Nat) : Nat → Nat
  | 0 => 0
  | j + 1 => cb n j + (n.testBit j).toNat
theorem cb_s {h l : Nat} (hl : l < 256) : ∀ j, cb (256 * h + l) (8 + j) = cb l 8 + cb h j := by
  have tb := fun i => Nat.testBit_two_pow_mul_add h (show l < 2 ^ 8 from hl) i
  have low : ∀ j, j ≤ 8 → cb (256 * h + l) j = cb l j := by
    intro j
    induction j with
    | zero => exact fun _ => rfl
    | succ j ih =>
      intro hj
      show cb (256 * h + l) j + ((256 * h + l).testBit j).toNat = cb l j + (l.testBit j).toNat
      have := tb j
      rw [if_pos (by omega)] at this
      rw [ih (by omega), ← this]
  intro j
  induction j with
  | zero => rw [Nat.add_zero, low 8 (Nat.le_refl _)]; rfl
  | succ j ih =>
    show cb (256 * h + l) (8 + j) + ((256 * h + l).testBit (8 + j)).toNat = cb l 8 + (cb h j + (h.testBit j).toNat)
    have := tb (8 + j)
    rw [if_neg (by omega), show 8 + j - 8 = j by omega] at this
    rw [ih, ← this, Nat.add_assoc]
theorem cb8 : ∀ l, l < 256 → cb l 8 = p8 l := by decide +kernel
theorem bsum_cb : ∀ k x : Nat, bsum k x = cb x (8 * k) := by
  intro k
  induction k with
  | zero => exact fun _ => rfl
  | succ k ih =>
    intro x
    show p8 (x % 256) + bsum k (x / 256) = cb x (8 * (k + 1))
    have hx : x = 256 * (x / 256) + x % 256 := by omega
    have hm : x % 256 < 256 := Nat.mod_lt _ (by decide)
    rw [ih, ← cb8 _ hm, show 8 * (k + 1) = 8 + 8 * k by omega]
    have := cb_s (h := x / 256) hm (8 * k)
    rw [← hx] at this
    exact this.symm
theorem ush (v : Int64) (k : Int32) (j : Nat) (h : (UInt64.toBitVec ((k.toInt64.toUInt64 &&& Int64.toUInt64 63) % 64)).toNat = j) : ((v.toUInt64 >>> (k.toInt64.toUInt64 &&& Int64.toUInt64 63)).toInt64).toBitVec.toNat = v.toBitVec.toNat >>> j := by subst h; rfl
def nb64 (x : Int64) : Nat := x.toBitVec.toNat
theorem nb_lt (x : Int64) : nb64 x < 2 ^ 64 := x.toBitVec.isLt
theorem nb_and (x y : Int64) : nb64 (x &&& y) = nb64 x &&& nb64 y := rfl
theorem nb_add (x y : Int64) : nb64 (x + y) = (nb64 x + nb64 y) % 2 ^ 64 := rfl
theorem nb_sub (x y : Int64) (h : nb64 y ≤ nb64 x) : nb64 (x - y) = nb64 x - nb64 y := by
  have h1 : nb64 (x - y) = (2 ^ 64 - nb64 y + nb64 x) % 2 ^ 64 := rfl
  have := nb_lt x
  have := nb_lt y
  rw [h1]; omega
theorem sh_tab : ∀ i, i < 60 → (((I ((i : Nat) : Int)).toInt64 &&& 63).toBitVec.smod 64).toNat = i := by decide +kernel
theorem andL1 (y : Int64) : decide (y &&& 1 = 1) = y.toBitVec.getLsbD 0 := by
  have e : (y &&& 1).toBitVec = BitVec.setWidth 64 (BitVec.ofBool (y.toBitVec.getLsbD 0)) := BitVec.and_one_eq_setWidth_ofBool_getLsbD
  cases hb : y.toBitVec.getLsbD 0
  · rw [hb] at e
    apply decide_eq_false
    intro q
    rw [q] at e
    exact absurd e (by decide)
  · rw [hb] at e
    apply decide_eq_true
    exact Int64.toBitVec_inj.mp (e.trans (by decide))
theorem nb_hl {x : Int64} {i : Nat} (hi : i < 60) : hl x i = (nb64 x).testBit i := by
  unfold hl
  rw [andL1]
  have h : (x >>> ((I (i : Int)).toInt64 &&& 63)).toBitVec = x.toBitVec.sshiftRight i := by
    show x.toBitVec.sshiftRight (((I (i : Int)).toInt64 &&& 63).toBitVec.smod 64).toNat = _
    rw [sh_tab i hi]
  rw [h, BitVec.getLsbD_sshiftRight, if_pos (by omega), Nat.add_zero]
  show (true && x.toBitVec.getLsbD i) = _
  rw [Bool.true_and]; rfl
def LB (x : Int64) : Prop := nb64 x < 2 ^ 60
theorem LB_ext {x y : Int64} (hx : LB x) (hy : LB y) (h : ∀ e : Int, 0 ≤ e → e < 60 → hl x e = hl y e) : x = y := by
  apply Int64.toBitVec_inj.mp
  apply BitVec.eq_of_toNat_eq
  apply Nat.eq_of_testBit_eq
  intro i
  by_cases c : i < 60
  · have := h i (by omega) (by omega)
    rw [nb_hl c, nb_hl c] at this
    exact this
  · have h2 : 2 ^ 60 ≤ 2 ^ i := Nat.pow_le_pow_right (by decide) (by omega)
    rw [Nat.testBit_lt_two_pow (show x.toBitVec.toNat < 2 ^ i from Nat.lt_of_lt_of_le hx h2), Nat.testBit_lt_two_pow (show y.toBitVec.toNat < 2 ^ i from Nat.lt_of_lt_of_le hy h2)]
theorem bit_tab : ∀ d, d < 60 → nb64 (bitL ((d : Nat) : Int)) = 2 ^ d := by decide +kernel
theorem LB_bit {d : Int} (h0 : 0 ≤ d) (h1 : d < 60) : LB (bitL d) := by
  obtain ⟨a, rfl⟩ := Int.eq_ofNat_of_zero_le h0
  unfold LB
  rw [bit_tab a (by omega)]
  exact Nat.pow_lt_pow_right (by decide) (by omega)
theorem LB_or {x y : Int64} (hx : LB x) (hy : LB y) : LB (x ||| y) := Nat.or_lt_two_pow hx hy
theorem LB_and {x y : Int64} (hx : LB x) : LB (x &&& y) := Nat.lt_of_le_of_lt Nat.and_le_left hx
theorem hl_or {x y : Int64} {e : Int} (h0 : 0 ≤ e) (h1 : e < 60) : hl (x ||| y) e = (hl x e || hl y e) := by
  obtain ⟨a, rfl⟩ := Int.eq_ofNat_of_zero_le h0
  rw [nb_hl (by omega), nb_hl (by omega), nb_hl (by omega)]
  exact Nat.testBit_or _ _ _
theorem hl_and {x y : Int64} {e : Int} (h0 : 0 ≤ e) (h1 : e < 60) : hl (x &&& y) e = (hl x e && hl y e) := by
  obtain ⟨a, rfl⟩ := Int.eq_ofNat_of_zero_le h0
  rw [nb_hl (by omega), nb_hl (by omega), nb_hl (by omega)]
  exact Nat.testBit_and _ _ _
theorem hl_bit {d e : Int} (d0 : 0 ≤ d) (d1 : d < 60) (h0 : 0 ≤ e) (h1 : e < 60) : hl (bitL d) e = decide (e = d) := by
  obtain ⟨a, rfl⟩ := Int.eq_ofNat_of_zero_le h0
  obtain ⟨b, rfl⟩ := Int.eq_ofNat_of_zero_le d0
  rw [nb_hl (by omega), bit_tab b (by omega), Nat.testBit_two_pow]
  exact decide_eq_decide.mpr (by omega)
theorem hl_not {x : Int64} {e : Int} (h0 : 0 ≤ e) (h1 : e < 60) : hl (x ^^^ (-1)) e = !hl x e := by
  obtain ⟨a, rfl⟩ := Int.eq_ofNat_of_zero_le h0
  rw [nb_hl (by omega), nb_hl (by omega)]
  have : nb64 (x ^^^ (-1)) = nb64 x ^^^ (2 ^ 64 - 1) := rfl
  rw [this, Nat.testBit_xor, Nat.testBit_two_pow_sub_one, decide_eq_true (by omega), Bool.xor_true]
theorem cb_top {n : Nat} (h : n < 2 ^ 60) : cb n 64 = cb n 60 := by
  have z : ∀ i, 60 ≤ i → n.testBit i = false := fun i hi => Nat.testBit_lt_two_pow (Nat.lt_of_lt_of_le h (Nat.pow_le_pow_right (by decide) hi))
  show cb n 60 + (n.testBit 60).toNat + (n.testBit 61).toNat + (n.testBit 62).toNat + (n.testBit 63).toNat = cb n 60
  rw [z 60 (by decide), z 61 (by decide), z 62 (by decide), z 63 (by decide)]; rfl
theorem cb_cnt (x : Int64) : ∀ j : Nat, j ≤ 60 → ((cb (nb64 x) j : Nat) : Int) = cnt (hl x) j := by
  intro j
  induction j with
  | zero => exact fun _ => rfl
  | succ j ih =>
    intro hj
    show ((cb (nb64 x) j + ((nb64 x).testBit j).toNat : Nat) : Int) = cnt (hl x) j + (if hl x j = true then 1 else 0)
    rw [← ih (by omega), nb_hl (by omega)]
    cases (nb64 x).testBit j
    · rw [if_neg (by decide)]; rfl
    · rw [if_pos rfl]; rfl
theorem mk_1 : mk8 85 8 = 6148914691236517205 := by decide +kernel
theorem mk_2 : mk8 51 8 = 3689348814741910323 := by decide +kernel
theorem mk_3 : mk8 15 8 = 1085102592571150095 := by decide +kernel
theorem lowI (v : Int64) : (v.toInt32 &&& 127) = I ((nb64 v % 128 : Nat) : Int) := by
  apply Int32.toBitVec_inj.mp
  apply BitVec.eq_of_toNat_eq
  have h1 : (v.toInt32 &&& 127).toBitVec.toNat = (nb64 v % 2 ^ 32) &&& 127 := by
    have : v.toInt32.toBitVec = v.toBitVec.setWidth 32 := BitVec.signExtend_eq_setWidth_of_le _ (by decide)
    show (v.toInt32.toBitVec &&& 127#32).toNat = _
    rw [this, BitVec.toNat_and, BitVec.toNat_setWidth]; rfl
  have h2 : ∀ k : Nat, k < 128 → (I (k : Int)).toBitVec.toNat = k := by decide +kernel
  rw [h1, h2 _ (Nat.mod_lt _ (by decide)), show (127 : Nat) = 2 ^ 7 - 1 from rfl, Nat.and_two_pow_sub_one_eq_mod]
  omega
theorem c_bitCount {x : Int64} (hx : LB x) : F_J13_bitCount_95d88 x = xp (I (cnt (hl x) 60)) := by
  unfold F_J13_bitCount_95d88
  simp only [xb_xp]
  have n0 := nb_lt x
  generalize e1 : x - ((x.toUInt64 >>> ((1 : Int32).toInt64.toUInt64 &&& Int64.toUInt64 63)).toInt64 &&& 6148914691236517205) = x1
  have f1 : nb64 x1 = sw1 8 (nb64 x) := by
    rw [← e1]
    have u : nb64 ((x.toUInt64 >>> ((1 : Int32).toInt64.toUInt64 &&& Int64.toUInt64 63)).toInt64 &&& 6148914691236517205) = (nb64 x >>> 1) &&& mk8 85 8 := by
      rw [nb_and, mk_1]
      show nb64 _ &&& _ = _
      rw [show nb64 ((x.toUInt64 >>> ((1 : Int32).toInt64.toUInt64 &&& Int64.toUInt64 63)).toInt64) = nb64 x >>> 1 from ush x 1 1 (by decide)]; rfl
    rw [nb_sub _ _ (by rw [u]; exact Nat.le_trans Nat.and_le_left (by rw [Nat.shiftRight_eq_div_pow]; exact Nat.div_le_self _ _)), u]; rfl
  generalize e2 : (x1 &&& 3689348814741910323) + ((x1.toUInt64 >>> ((2 : Int32).toInt64.toUInt64 &&& Int64.toUInt64 63)).toInt64 &&& 3689348814741910323) = x2
  have a1 : ∀ y : Nat, y &&& 3689348814741910323 ≤ 3689348814741910323 := fun y => Nat.and_le_right
  have f2 : nb64 x2 = sw2 8 (sw1 8 (nb64 x)) := by
    rw [← e2, nb_add, nb_and, nb_and, show nb64 ((x1.toUInt64 >>> ((2 : Int32).toInt64.toUInt64 &&& Int64.toUInt64 63)).toInt64) = nb64 x1 >>> 2 from ush x1 2 2 (by decide), f1]
    unfold sw2
    rw [mk_2]
    have b1 := a1 (sw1 8 (nb64 x))
    have b2 := a1 (sw1 8 (nb64 x) >>> 2)
    show ((_ &&& 3689348814741910323) + (_ &&& 3689348814741910323)) % 2 ^ 64 = _
    omega
  have g2 : sw2 8 (sw1 8 (nb64 x)) ≤ 7378697629483820646 := by
    unfold sw2
    rw [mk_2]
    have b1 := a1 (sw1 8 (nb64 x))
    have b2 := a1 (sw1 8 (nb64 x) >>> 2)
    omega
  generalize e3 : (x2 + (x2.toUInt64 >>> ((4 : Int32).toInt64.toUInt64 &&& Int64.toUInt64 63)).toInt64) &&& 1085102592571150095 = x3
  have f3 : nb64 x3 = popk 8 (nb64 x) := by
    rw [← e3, nb_and, nb_add, show nb64 ((x2.toUInt64 >>> ((4 : Int32).toInt64.toUInt64 &&& Int64.toUInt64 63)).toInt64) = nb64 x2 >>> 4 from ush x2 4 4 (by decide), f2]
    unfold popk sw3
    rw [mk_3, Nat.shiftRight_eq_div_pow]
    rw [Nat.mod_eq_of_lt (by omega)]; rfl
  obtain ⟨k1, k2, k3⟩ := fold8 (nb64 x) n0
  generalize e4 : x3 + (x3.toUInt64 >>> ((8 : Int32).toInt64.toUInt64 &&& Int64.toUInt64 63)).toInt64 = x4
  have f4 : nb64 x4 = popk 8 (nb64 x) + popk 8 (nb64 x) / 256 := by
    rw [← e4, nb_add, show nb64 ((x3.toUInt64 >>> ((8 : Int32).toInt64.toUInt64 &&& Int64.toUInt64 63)).toInt64) = nb64 x3 >>> 8 from ush x3 8 8 (by decide), f3, Nat.shiftRight_eq_div_pow]
    rw [Nat.mod_eq_of_lt (by omega)]
  generalize e5 : x4 + (x4.toUInt64 >>> ((16 : Int32).toInt64.toUInt64 &&& Int64.toUInt64 63)).toInt64 = x5
  have f5 : nb64 x5 = (popk 8 (nb64 x) + popk 8 (nb64 x) / 256) + (popk 8 (nb64 x) + popk 8 (nb64 x) / 256) / 65536 := by
    rw [← e5, nb_add, show nb64 ((x4.toUInt64 >>> ((16 : Int32).toInt64.toUInt64 &&& Int64.toUInt64 63)).toInt64) = nb64 x4 >>> 16 from ush x4 16 16 (by decide), f4, Nat.shiftRight_eq_div_pow]
    rw [Nat.mod_eq_of_lt (by omega)]
  generalize e6 : x5 + (x5.toUInt64 >>> ((32 : Int32).toInt64.toUInt64 &&& Int64.toUInt64 63)).toInt64 = x6
  have f6 : nb64 x6 % 128 = bsum 8 (nb64 x) := by
    rw [← e6, nb_add, show nb64 ((x5.toUInt64 >>> ((32 : Int32).toInt64.toUInt64 &&& Int64.toUInt64 63)).toInt64) = nb64 x5 >>> 32 from ush x5 32 32 (by decide), f5, Nat.shiftRight_eq_div_pow, ← k2]
    rw [Nat.mod_eq_of_lt (a := _ + _) (b := 2 ^ 64) (by omega)]
  rw [lowI, f6, bsum_cb, cb_top hx, cb_cnt x 60 (Nat.le_refl _)]
