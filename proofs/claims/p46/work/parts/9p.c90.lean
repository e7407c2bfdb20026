/-! computations over the law's state, evaluated -/
theorem lb_lp {α β : Type} (a : α) (f : α → LX β) : lb (lp a) f = f a := id rfl
theorem lb_as {α β γ : Type} (x : LX α) (f : α → LX β) (g : β → LX γ) : lb (lb x f) g = lb x fun v => lb (f v) g := by
  funext m
  unfold lb
  cases x m with
  | none => rfl
  | some r => obtain ⟨r1, r2⟩ := r; cases r1 <;> rfl
theorem lp_ap {α : Type} (a : α) (L : LSt) : lp a L = some (.ok a, L) := id rfl
theorem lgo_ok {α : Type} (s : Nat) (x : LX α) : lgo (some s) s x = x := funext fun _ => if_pos rfl
theorem lb_lq {α : Type} (g : MS → Int32) (f : Int32 → LX α) (L : LSt) : lb (lq g) f L = f (g (zS L)) L := id rfl
theorem lq_ap (g : MS → Int32) (L : LSt) : lq g L = some (.ok (g (zS L)), L) := id rfl
section C90
variable {α β : Type} {L L1 L2 : LSt} {a : α}
theorem E_b {x : LX α} {f : α → LX β} {r : Option (Except Nat β × LSt)} (a : α) (L1 : LSt) (h1 : x L = some (.ok a, L1)) (h2 : f a L1 = r) : lb x f L = r := by
  unfold lb; rw [h1]; exact h2
theorem E_bi {x : LX Bool} {b : Bool} (h : x L = some (.ok b, L1)) : (lb x fun v => lp (b2i v)) L = some (.ok (b2i b), L1) := by
  unfold lb; rw [h]; rfl
theorem E_bt {x : LX Bool} (h : x L = some (.ok true, L1)) : (lb x fun v => lp (b2i v)) L = some (.ok (I 1), L1) := by
  rw [E_bi h]; rfl
theorem E_bf {x : LX Bool} (h : x L = some (.ok false, L1)) : (lb x fun v => lp (b2i v)) L = some (.ok (I 0), L1) := by
  rw [E_bi h]; rfl
theorem E_if1 {x : LX Bool} {y z : LX α} {r : Option (Except Nat α × LSt)} (h : x L = some (.ok true, L1)) (h2 : y L1 = r) : (lb x fun v => if v then y else z) L = r := by
  unfold lb; rw [h]; exact h2
theorem E_if2 {x : LX Bool} {y z : LX α} {r : Option (Except Nat α × LSt)} (h : x L = some (.ok false, L1)) (h2 : z L1 = r) : (lb x fun v => if v then y else z) L = r := by
  unfold lb; rw [h]; exact h2
theorem E_and {x y : LX Bool} {b : Bool} (h : x L = some (.ok true, L1)) (h2 : y L1 = some (.ok b, L2)) : (lb x fun v => if v then y else lp false) L = some (.ok b, L2) := E_if1 h h2
theorem E_nand {x y : LX Bool} (h : x L = some (.ok false, L1)) : (lb x fun v => if v then y else lp false) L = some (.ok false, L1) := E_if2 h rfl
theorem E_or1 {x y : LX Bool} (h : x L = some (.ok true, L1)) : (lb x fun v => if v then lp true else y) L = some (.ok true, L1) := E_if1 h rfl
theorem E_or2 {x y : LX Bool} {b : Bool} (h : x L = some (.ok false, L1)) (h2 : y L1 = some (.ok b, L2)) : (lb x fun v => if v then lp true else y) L = some (.ok b, L2) := E_if2 h h2
theorem E_not {x : LX Bool} {b : Bool} (h : x L = some (.ok b, L1)) : (lb x fun v => lp (!v)) L = some (.ok (!b), L1) := by
  unfold lb; rw [h]; rfl
theorem E_ret {x : LX Bool} (h : x L = some (.ok true, L1)) : (lb (lb x fun v => lp (b2i v)) lz) L = some (.ok (I 1), L1) := by
  unfold lb; rw [h]; rfl
/-- a loop that comes to its end; the state may change -/
theorem ll_run {σ : Type} {c : σ → LX Bool} {b : σ → LX σ} (f : Nat → σ) (T : Nat → LSt) (N : Nat) : ∀ n, (∀ j, j < N → c (f j) (T j) = some (.ok true, T j)) → (∀ j, j < N → b (f j) (T j) = some (.ok (f (j + 1)), T (j + 1))) → c (f N) (T N) = some (.ok false, T N) → N < n → ll n c b (f 0) (T 0) = some (.ok (f N), T N) := by
  have H : ∀ k n, k ≤ N → N - k < n → (∀ j, j < N → c (f j) (T j) = some (.ok true, T j)) → (∀ j, j < N → b (f j) (T j) = some (.ok (f (j + 1)), T (j + 1))) → c (f N) (T N) = some (.ok false, T N) → ll n c b (f k) (T k) = some (.ok (f N), T N) := by
    intro k n
    induction n generalizing k with
    | zero => intro _ h; exact absurd h (Nat.not_lt_zero _)
    | succ n ih =>
      intro hk hn h1 h2 h3
      unfold ll
      by_cases e : k = N
      · subst e; exact E_b _ _ h3 rfl
      · refine E_b _ _ (h1 k (by omega)) ?_
        show lb (b (f k)) (fun s' => ll n c b s') (T k) = _
        exact E_b _ _ (h2 k (by omega)) (ih (k + 1) (by omega) (by omega) h1 h2 h3)
  intro n h1 h2 h3 hn
  exact H 0 n (by omega) (by omega) h1 h2 h3
theorem llr_run {ρ σ : Type} {c : σ → LX Bool} {b : σ → LX (ρ ⊕ σ)} (f : Nat → σ) (T : Nat → LSt) (N : Nat) : ∀ n, (∀ j, j < N → c (f j) (T j) = some (.ok true, T j)) → (∀ j, j < N → b (f j) (T j) = some (.ok (.inr (f (j + 1))), T (j + 1))) → c (f N) (T N) = some (.ok false, T N) → N < n → llr n c b (f 0) (T 0) = some (.ok (.inr (f N)), T N) := by
  have H : ∀ k n, k ≤ N → N - k < n → (∀ j, j < N → c (f j) (T j) = some (.ok true, T j)) → (∀ j, j < N → b (f j) (T j) = some (.ok (.inr (f (j + 1))), T (j + 1))) → c (f N) (T N) = some (.ok false, T N) → llr n c b (f k) (T k) = some (.ok (.inr (f N)), T N) := by
    intro k n
    induction n generalizing k with
    | zero => intro _ h; exact absurd h (Nat.not_lt_zero _)
    | succ n ih =>
      intro hk hn h1 h2 h3
      unfold llr
      by_cases e : k = N
      · subst e; exact E_b _ _ h3 rfl
      · refine E_b _ _ (h1 k (by omega)) ?_
        refine E_b (.inr (f (k + 1))) _ (h2 k (by omega)) ?_
        exact ih (k + 1) (by omega) (by omega) h1 h2 h3
  intro n h1 h2 h3 hn
  exact H 0 n (by omega) (by omega) h1 h2 h3
theorem ll_run2 {σ : Type} {c : σ → LX Bool} {b : σ → LX σ} {n : Nat} {s0 s1 : σ} {L0 : LSt} (f : Nat → σ) (T : Nat → LSt) (N : Nat) (h0 : f 0 = s0) (t0 : T 0 = L0) (hN : f N = s1) (tN : T N = L1) (h1 : ∀ j, j < N → c (f j) (T j) = some (.ok true, T j)) (h2 : ∀ j, j < N → b (f j) (T j) = some (.ok (f (j + 1)), T (j + 1))) (h3 : c (f N) (T N) = some (.ok false, T N)) (hn : N < n) : ll n c b s0 L0 = some (.ok s1, L1) := by
  subst h0; subst t0; subst hN; subst tN
  exact ll_run f T N n h1 h2 h3 hn
theorem llr_run2 {ρ σ : Type} {c : σ → LX Bool} {b : σ → LX (ρ ⊕ σ)} {n : Nat} {s0 s1 : σ} {L0 : LSt} (f : Nat → σ) (T : Nat → LSt) (N : Nat) (h0 : f 0 = s0) (t0 : T 0 = L0) (hN : f N = s1) (tN : T N = L1) (h1 : ∀ j, j < N → c (f j) (T j) = some (.ok true, T j)) (h2 : ∀ j, j < N → b (f j) (T j) = some (.ok (.inr (f (j + 1))), T (j + 1))) (h3 : c (f N) (T N) = some (.ok false, T N)) (hn : N < n) : llr n c b s0 L0 = some (.ok (.inr s1), L1) := by
  subst h0; subst t0; subst hN; subst tN
  exact llr_run f T N n h1 h2 h3 hn
theorem pr2 {a a' b b' : Int} (h : a = a') (h2 : b = b') : (I a, I b) = (I a', I b') := by subst h; subst h2; rfl
theorem pr3 {a a' b b' c c' : Int} (h : a = a') (h2 : b = b') (h3 : c = c') : (I a, I b, I c) = (I a', I b', I c') := by subst h; subst h2; subst h3; rfl
end C90
/-! reading the law's rows -/
section C90b
variable {α : Type} {f : Int32 → LX α} {L : LSt} {sv : Nat} {z n : Int}
theorem ea_n (h0 : 0 ≤ z) (h1 : z < 8) : lai sv (some (sv + 20)) (I z) L = some (.ok (zN L z.toNat), L) := by
  unfold lai
  rw [if_pos rfl, toInt_I (by omega) (by omega), if_pos ⟨h0, by omega⟩, clamp_I h0 (by omega)]
theorem ea_k (h0 : 0 ≤ z) (h1 : z < 5) : lai sv (some (sv + 21)) (I z) L = some (.ok (zK L z.toNat), L) := by
  unfold lai
  rw [if_neg (by simp), if_pos rfl, toInt_I (by omega) (by omega), if_pos ⟨h0, by omega⟩, clamp_I h0 (by omega)]
theorem ea_g (h0 : 0 ≤ z) (h1 : z < 2) : lai sv (some (sv + 22)) (I z) L = some (.ok (zG L z.toNat), L) := by
  unfold lai
  rw [if_neg (by simp), if_neg (by simp), if_pos rfl, toInt_I (by omega) (by omega), if_pos ⟨h0, by omega⟩, clamp_I h0 (by omega)]
theorem ea_g0 : lai sv (some (sv + 22)) (I 0) L = some (.ok (zG L 0), L) := ea_g (z := 0) (by decide) (by decide)
theorem ea_g1 : lai sv (some (sv + 22)) (I 1) L = some (.ok (zG L 1), L) := ea_g (z := 1) (by decide) (by decide)
theorem ev_n (h0 : 0 ≤ z) (h1 : z < 8) : lb (lai sv (some (sv + 20)) (I z)) f L = f (zN L z.toNat) L := E_b _ _ (ea_n h0 h1) rfl
theorem ev_k (h0 : 0 ≤ z) (h1 : z < 5) : lb (lai sv (some (sv + 21)) (I z)) f L = f (zK L z.toNat) L := E_b _ _ (ea_k h0 h1) rfl
theorem ev_g0 : lb (lai sv (some (sv + 22)) (I 0)) f L = f (zG L 0) L := E_b _ _ ea_g0 rfl
theorem ev_g1 : lb (lai sv (some (sv + 22)) (I 1)) f L = f (zG L 1) L := E_b _ _ ea_g1 rfl
theorem ea_div (h0 : 0 ≤ z) (h1 : z < 2147483648) (n0 : 0 < n) (n1 : n < 2147483648) : ldiv (I z) (I n) L = some (.ok (I (z / n)), L) := by
  unfold ldiv
  rw [if_neg (by rw [gl0, I_inj (by omega) (by omega) (by omega) (by omega)]; omega), I_div h0 h1 n0 n1]
theorem ea_rem (h0 : 0 ≤ z) (h1 : z < 2147483648) (n0 : 0 < n) (n1 : n < 2147483648) : lrem (I z) (I n) L = some (.ok (I (z % n)), L) := by
  unfold lrem
  rw [if_neg (by rw [gl0, I_inj (by omega) (by omega) (by omega) (by omega)]; omega), I_div h0 h1 n0 n1, I_mul, I_sub]
  have : z - z / n * n = z % n := by have := Int.mul_ediv_add_emod z n; rw [Int.mul_comm] at this; omega
  rw [this]
theorem ev_div (h0 : 0 ≤ z) (h1 : z < 2147483648) (n0 : 0 < n) (n1 : n < 2147483648) : lb (ldiv (I z) (I n)) f L = f (I (z / n)) L := E_b _ _ (ea_div h0 h1 n0 n1) rfl
theorem ev_rem (h0 : 0 ≤ z) (h1 : z < 2147483648) (n0 : 0 < n) (n1 : n < 2147483648) : lb (lrem (I z) (I n)) f L = f (I (z % n)) L := E_b _ _ (ea_rem h0 h1 n0 n1) rfl
/-- a number out of the script's -/
def lowv (x : Int32) (n : Int) : Int := (x &&& I 2147483647).toInt % n
theorem land_nn (x : Int32) : 0 ≤ (x &&& I 2147483647).toInt := by
  have h : (x &&& I 2147483647).toBitVec.msb = false := by
    rw [Int32.toBitVec_and, BitVec.msb_and]
    have : (I 2147483647).toBitVec.msb = false := by decide
    rw [this, Bool.and_false]
  have e : (x &&& I 2147483647).toInt = (x &&& I 2147483647).toBitVec.toInt := rfl
  rw [e, BitVec.toInt_eq_toNat_of_msb h]
  omega
theorem lowv_r (x : Int32) (h : 0 < n) : 0 ≤ lowv x n ∧ lowv x n < n := ⟨Int.emod_nonneg _ (by omega), Int.emod_lt_of_pos _ h⟩
theorem ea_low (x : Int32) (n0 : 0 < n) (n1 : n < 2147483648) : F_L_low sv x (I n) L = some (.ok (I (lowv x n)), L) := by
  unfold F_L_low
  simp only [lb_lp, lb_as]
  have := land_nn x
  have h2 : (x &&& I 2147483647).toInt < 2147483648 := (x &&& I 2147483647).toInt_lt
  rw [← I_toInt (x &&& I 2147483647), ea_rem this h2 n0 n1]
  rfl
theorem ev_low (x : Int32) (n0 : 0 < n) (n1 : n < 2147483648) : lb (F_L_low sv x (I n)) f L = f (I (lowv x n)) L := E_b _ _ (ea_low x n0 n1) rfl
end C90b
/-! what the questions answer, as whole numbers -/
def rv (a b c : Bool) (v : Int) : Int := if a = false then -1000001 else if b = false then -1000002 else if c = false then -1000003 else v
theorem ec_1 : ec 1 = I (-1000001) := by decide
theorem ec_2 : ec 2 = I (-1000002) := by decide
theorem ec_3 : ec 3 = I (-1000003) := by decide
theorem lres_rs3 (a b c : Bool) (v : Int) : lres (rs3 a b c (I v)) = I (rv a b c v) := by
  cases a
  · exact ec_1
  · cases b
    · exact ec_2
    · cases c
      · exact ec_3
      · rfl
theorem lres_rs3b (a b c d : Bool) : lres (rs3 a b c (b2i d)) = I (rv a b c (if d = true then 1 else 0)) := by
  rw [b2i_I, lres_rs3]
theorem lu_val {δ : Int} {f : MS → Except Nat Int32} {g : MS → MS} {a b c : Bool} {v : Int} {L : LSt} (ht : zT L + 2 ≤ 600) (hf : f (zS L) = rs3 a b c (I v)) : lu δ f g L = if (a && b && c) = true then some (.ok (I v), lst L (g (zS L)) δ) else some (.ok (I (rv a b c v)), L) := by
  have e := lres_rs3 a b c v
  unfold lu
  rw [if_pos ht, hf]
  rw [← e]
  cases a
  · rfl
  · cases b
    · rfl
    · cases c
      · rfl
      · rfl
theorem rv_ok {a b c : Bool} {v : Int} (h : a = true) (h2 : b = true) (h3 : c = true) : rv a b c v = v := by subst h; subst h2; subst h3; rfl
theorem rv_1 {a b c : Bool} {v : Int} (h : a = false) : rv a b c v = -1000001 := by subst h; rfl
theorem rv_2 {a b c : Bool} {v : Int} (h : a = true) (h2 : b = false) : rv a b c v = -1000002 := by subst h; subst h2; rfl
theorem rv_3 {a b c : Bool} {v : Int} (h : a = true) (h2 : b = true) (h3 : c = false) : rv a b c v = -1000003 := by subst h; subst h2; subst h3; rfl
def v_common (S : MS) (z0 z1 : Int) : Int := rv (gZ z0) (gH2 z1) (true) ((sCom S z0 z1))
theorem ea_common {L : LSt} {z0 z1 : Int} (l0 : -2147483648 ≤ z0) (u0 : z0 < 2147483648) (l1 : -2147483648 ≤ z1) (u1 : z1 < 2147483648) : w_common (I z0) (I z1) L = some (.ok (I (v_common (zS L) z0 z1)), L) := by
  unfold w_common v_common lqe
  simp only [toInt_I l0 u0, toInt_I l1 u1, lres_rs3]
theorem ev_common {α : Type} {f : Int32 → LX α} {L : LSt} {z0 z1 : Int} (l0 : -2147483648 ≤ z0) (u0 : z0 < 2147483648) (l1 : -2147483648 ≤ z1) (u1 : z1 < 2147483648) : lb (w_common (I z0) (I z1)) f L = f (I (v_common (zS L) z0 z1)) L := E_b _ _ (ea_common l0 u0 l1 u1) rfl
def v_local (S : MS) (z0 z1 : Int) : Int := rv (gZ z0) (gH2 z1) (true) ((sLoc S z0 z1))
theorem ea_local {L : LSt} {z0 z1 : Int} (l0 : -2147483648 ≤ z0) (u0 : z0 < 2147483648) (l1 : -2147483648 ≤ z1) (u1 : z1 < 2147483648) : w_local (I z0) (I z1) L = some (.ok (I (v_local (zS L) z0 z1)), L) := by
  unfold w_local v_local lqe
  simp only [toInt_I l0 u0, toInt_I l1 u1, lres_rs3]
theorem ev_local {α : Type} {f : Int32 → LX α} {L : LSt} {z0 z1 : Int} (l0 : -2147483648 ≤ z0) (u0 : z0 < 2147483648) (l1 : -2147483648 ≤ z1) (u1 : z1 < 2147483648) : lb (w_local (I z0) (I z1)) f L = f (I (v_local (zS L) z0 z1)) L := E_b _ _ (ea_local l0 u0 l1 u1) rfl
def v_kindOf (S : MS) (z0 : Int) : Int := rv (gK S z0) (true) (true) ((ma S 31 z0))
theorem ea_kindOf {L : LSt} {z0 : Int} (l0 : -2147483648 ≤ z0) (u0 : z0 < 2147483648) : w_kindOf (I z0) L = some (.ok (I (v_kindOf (zS L) z0)), L) := by
  unfold w_kindOf v_kindOf lqe
  simp only [toInt_I l0 u0, lres_rs3]
theorem ev_kindOf {α : Type} {f : Int32 → LX α} {L : LSt} {z0 : Int} (l0 : -2147483648 ≤ z0) (u0 : z0 < 2147483648) : lb (w_kindOf (I z0)) f L = f (I (v_kindOf (zS L) z0)) L := E_b _ _ (ea_kindOf l0 u0) rfl
def v_receiver (S : MS) (z0 : Int) : Int := rv (gK S z0) (true) (true) ((ma S 33 z0))
theorem ea_receiver {L : LSt} {z0 : Int} (l0 : -2147483648 ≤ z0) (u0 : z0 < 2147483648) : w_receiver (I z0) L = some (.ok (I (v_receiver (zS L) z0)), L) := by
  unfold w_receiver v_receiver lqe
  simp only [toInt_I l0 u0, lres_rs3]
theorem ev_receiver {α : Type} {f : Int32 → LX α} {L : LSt} {z0 : Int} (l0 : -2147483648 ≤ z0) (u0 : z0 < 2147483648) : lb (w_receiver (I z0)) f L = f (I (v_receiver (zS L) z0)) L := E_b _ _ (ea_receiver l0 u0) rfl
def v_isThere (S : MS) (z0 z1 : Int) : Int := rv (gPM S z0 z1) (true) (true) (if (isHere S z0 z1) = true then 1 else 0)
theorem ea_isThere {L : LSt} {z0 z1 : Int} (l0 : -2147483648 ≤ z0) (u0 : z0 < 2147483648) (l1 : -2147483648 ≤ z1) (u1 : z1 < 2147483648) : w_isThere (I z0) (I z1) L = some (.ok (I (v_isThere (zS L) z0 z1)), L) := by
  unfold w_isThere v_isThere lqe
  simp only [toInt_I l0 u0, toInt_I l1 u1, lres_rs3b]
theorem ev_isThere {α : Type} {f : Int32 → LX α} {L : LSt} {z0 z1 : Int} (l0 : -2147483648 ≤ z0) (u0 : z0 < 2147483648) (l1 : -2147483648 ≤ z1) (u1 : z1 < 2147483648) : lb (w_isThere (I z0) (I z1)) f L = f (I (v_isThere (zS L) z0 z1)) L := E_b _ _ (ea_isThere l0 u0 l1 u1) rfl
def v_sequence (S : MS) (z0 z1 : Int) : Int := rv (gPM S z0 z1) (true) (true) ((seqOf S z0 z1))
theorem ea_sequence {L : LSt} {z0 z1 : Int} (l0 : -2147483648 ≤ z0) (u0 : z0 < 2147483648) (l1 : -2147483648 ≤ z1) (u1 : z1 < 2147483648) : w_sequence (I z0) (I z1) L = some (.ok (I (v_sequence (zS L) z0 z1)), L) := by
  unfold w_sequence v_sequence lqe
  simp only [toInt_I l0 u0, toInt_I l1 u1, lres_rs3]
theorem ev_sequence {α : Type} {f : Int32 → LX α} {L : LSt} {z0 z1 : Int} (l0 : -2147483648 ≤ z0) (u0 : z0 < 2147483648) (l1 : -2147483648 ≤ z1) (u1 : z1 < 2147483648) : lb (w_sequence (I z0) (I z1)) f L = f (I (v_sequence (zS L) z0 z1)) L := E_b _ _ (ea_sequence l0 u0 l1 u1) rfl
def v_dates (S : MS) (z0 z1 : Int) : Int := rv (gPM S z0 z1) (true) (true) ((cnt (hl (datOf S z0 z1)) 60))
theorem ea_dates {L : LSt} {z0 z1 : Int} (l0 : -2147483648 ≤ z0) (u0 : z0 < 2147483648) (l1 : -2147483648 ≤ z1) (u1 : z1 < 2147483648) : w_dates (I z0) (I z1) L = some (.ok (I (v_dates (zS L) z0 z1)), L) := by
  unfold w_dates v_dates lqe
  simp only [toInt_I l0 u0, toInt_I l1 u1, lres_rs3]
theorem ev_dates {α : Type} {f : Int32 → LX α} {L : LSt} {z0 z1 : Int} (l0 : -2147483648 ≤ z0) (u0 : z0 < 2147483648) (l1 : -2147483648 ≤ z1) (u1 : z1 < 2147483648) : lb (w_dates (I z0) (I z1)) f L = f (I (v_dates (zS L) z0 z1)) L := E_b _ _ (ea_dates l0 u0 l1 u1) rfl
def v_dateAt (S : MS) (z0 z1 z2 : Int) : Int := rv (gPM S z0 z1 && decide (0 ≤ z2 ∧ z2 < cnt (hl (datOf S z0 z1)) 60)) (true) (true) ((nth (hl (datOf S z0 z1)) z2 60))
theorem ea_dateAt {L : LSt} {z0 z1 z2 : Int} (l0 : -2147483648 ≤ z0) (u0 : z0 < 2147483648) (l1 : -2147483648 ≤ z1) (u1 : z1 < 2147483648) (l2 : -2147483648 ≤ z2) (u2 : z2 < 2147483648) : w_dateAt (I z0) (I z1) (I z2) L = some (.ok (I (v_dateAt (zS L) z0 z1 z2)), L) := by
  unfold w_dateAt v_dateAt lqe
  simp only [toInt_I l0 u0, toInt_I l1 u1, toInt_I l2 u2, lres_rs3]
theorem ev_dateAt {α : Type} {f : Int32 → LX α} {L : LSt} {z0 z1 z2 : Int} (l0 : -2147483648 ≤ z0) (u0 : z0 < 2147483648) (l1 : -2147483648 ≤ z1) (u1 : z1 < 2147483648) (l2 : -2147483648 ≤ z2) (u2 : z2 < 2147483648) : lb (w_dateAt (I z0) (I z1) (I z2)) f L = f (I (v_dateAt (zS L) z0 z1 z2)) L := E_b _ _ (ea_dateAt l0 u0 l1 u1 l2 u2) rfl
def v_begin (S : MS) (z0 z1 z2 : Int) : Int := rv (gPM S z0 z1) (gD z2) (gPD S z0 z1 z2) ((begOf S (verOf S z0 z1) z2))
theorem ea_begin {L : LSt} {z0 z1 z2 : Int} (l0 : -2147483648 ≤ z0) (u0 : z0 < 2147483648) (l1 : -2147483648 ≤ z1) (u1 : z1 < 2147483648) (l2 : -2147483648 ≤ z2) (u2 : z2 < 2147483648) : w_begin (I z0) (I z1) (I z2) L = some (.ok (I (v_begin (zS L) z0 z1 z2)), L) := by
  unfold w_begin v_begin lqe
  simp only [toInt_I l0 u0, toInt_I l1 u1, toInt_I l2 u2, lres_rs3]
theorem ev_begin {α : Type} {f : Int32 → LX α} {L : LSt} {z0 z1 z2 : Int} (l0 : -2147483648 ≤ z0) (u0 : z0 < 2147483648) (l1 : -2147483648 ≤ z1) (u1 : z1 < 2147483648) (l2 : -2147483648 ≤ z2) (u2 : z2 < 2147483648) : lb (w_begin (I z0) (I z1) (I z2)) f L = f (I (v_begin (zS L) z0 z1 z2)) L := E_b _ _ (ea_begin l0 u0 l1 u1 l2 u2) rfl
def v_ownAnswer (S : MS) (z0 z1 z2 : Int) : Int := rv (gPM S z0 z1) (gD z2) (gPD S z0 z1 z2) ((ownOf S z0 z1 z2))
theorem ea_ownAnswer {L : LSt} {z0 z1 z2 : Int} (l0 : -2147483648 ≤ z0) (u0 : z0 < 2147483648) (l1 : -2147483648 ≤ z1) (u1 : z1 < 2147483648) (l2 : -2147483648 ≤ z2) (u2 : z2 < 2147483648) : w_ownAnswer (I z0) (I z1) (I z2) L = some (.ok (I (v_ownAnswer (zS L) z0 z1 z2)), L) := by
  unfold w_ownAnswer v_ownAnswer lqe
  simp only [toInt_I l0 u0, toInt_I l1 u1, toInt_I l2 u2, lres_rs3]
theorem ev_ownAnswer {α : Type} {f : Int32 → LX α} {L : LSt} {z0 z1 z2 : Int} (l0 : -2147483648 ≤ z0) (u0 : z0 < 2147483648) (l1 : -2147483648 ≤ z1) (u1 : z1 < 2147483648) (l2 : -2147483648 ≤ z2) (u2 : z2 < 2147483648) : lb (w_ownAnswer (I z0) (I z1) (I z2)) f L = f (I (v_ownAnswer (zS L) z0 z1 z2)) L := E_b _ _ (ea_ownAnswer l0 u0 l1 u1 l2 u2) rfl
def v_isAsked (S : MS) (z0 z1 : Int) : Int := rv (gPM S z1 z0) (true) (true) (if (hb (asked S z0) z1) = true then 1 else 0)
theorem ea_isAsked {L : LSt} {z0 z1 : Int} (l0 : -2147483648 ≤ z0) (u0 : z0 < 2147483648) (l1 : -2147483648 ≤ z1) (u1 : z1 < 2147483648) : w_isAsked (I z0) (I z1) L = some (.ok (I (v_isAsked (zS L) z0 z1)), L) := by
  unfold w_isAsked v_isAsked lqe
  simp only [toInt_I l0 u0, toInt_I l1 u1, lres_rs3b]
theorem ev_isAsked {α : Type} {f : Int32 → LX α} {L : LSt} {z0 z1 : Int} (l0 : -2147483648 ≤ z0) (u0 : z0 < 2147483648) (l1 : -2147483648 ≤ z1) (u1 : z1 < 2147483648) : lb (w_isAsked (I z0) (I z1)) f L = f (I (v_isAsked (zS L) z0 z1)) L := E_b _ _ (ea_isAsked l0 u0 l1 u1) rfl
def v_answerOf (S : MS) (z0 z1 z2 : Int) : Int := rv (gPM S z1 z0) (gD z2) (gND S z1 z0 z2) ((ansOf S z0 z1 z2))
theorem ea_answerOf {L : LSt} {z0 z1 z2 : Int} (l0 : -2147483648 ≤ z0) (u0 : z0 < 2147483648) (l1 : -2147483648 ≤ z1) (u1 : z1 < 2147483648) (l2 : -2147483648 ≤ z2) (u2 : z2 < 2147483648) : w_answerOf (I z0) (I z1) (I z2) L = some (.ok (I (v_answerOf (zS L) z0 z1 z2)), L) := by
  unfold w_answerOf v_answerOf lqe
  simp only [toInt_I l0 u0, toInt_I l1 u1, toInt_I l2 u2, lres_rs3]
theorem ev_answerOf {α : Type} {f : Int32 → LX α} {L : LSt} {z0 z1 z2 : Int} (l0 : -2147483648 ≤ z0) (u0 : z0 < 2147483648) (l1 : -2147483648 ≤ z1) (u1 : z1 < 2147483648) (l2 : -2147483648 ≤ z2) (u2 : z2 < 2147483648) : lb (w_answerOf (I z0) (I z1) (I z2)) f L = f (I (v_answerOf (zS L) z0 z1 z2)) L := E_b _ _ (ea_answerOf l0 u0 l1 u1 l2 u2) rfl
def v_answerByLog (S : MS) (z0 z1 z2 : Int) : Int := rv (gPM S z1 z0) (gD z2) (gND S z1 z0 z2) ((ansOf S z0 z1 z2))
theorem ea_answerByLog {L : LSt} {z0 z1 z2 : Int} (l0 : -2147483648 ≤ z0) (u0 : z0 < 2147483648) (l1 : -2147483648 ≤ z1) (u1 : z1 < 2147483648) (l2 : -2147483648 ≤ z2) (u2 : z2 < 2147483648) : w_answerByLog (I z0) (I z1) (I z2) L = some (.ok (I (v_answerByLog (zS L) z0 z1 z2)), L) := by
  unfold w_answerByLog v_answerByLog lqe
  simp only [toInt_I l0 u0, toInt_I l1 u1, toInt_I l2 u2, lres_rs3]
theorem ev_answerByLog {α : Type} {f : Int32 → LX α} {L : LSt} {z0 z1 z2 : Int} (l0 : -2147483648 ≤ z0) (u0 : z0 < 2147483648) (l1 : -2147483648 ≤ z1) (u1 : z1 < 2147483648) (l2 : -2147483648 ≤ z2) (u2 : z2 < 2147483648) : lb (w_answerByLog (I z0) (I z1) (I z2)) f L = f (I (v_answerByLog (zS L) z0 z1 z2)) L := E_b _ _ (ea_answerByLog l0 u0 l1 u1 l2 u2) rfl
def v_agrees (S : MS) (z0 : Int) : Int := rv (gM S z0) (true) (true) (if (agreesB S z0) = true then 1 else 0)
theorem ea_agrees {L : LSt} {z0 : Int} (l0 : -2147483648 ≤ z0) (u0 : z0 < 2147483648) : w_agrees (I z0) L = some (.ok (I (v_agrees (zS L) z0)), L) := by
  unfold w_agrees v_agrees lqe
  simp only [toInt_I l0 u0, lres_rs3b]
theorem ev_agrees {α : Type} {f : Int32 → LX α} {L : LSt} {z0 : Int} (l0 : -2147483648 ≤ z0) (u0 : z0 < 2147483648) : lb (w_agrees (I z0)) f L = f (I (v_agrees (zS L) z0)) L := E_b _ _ (ea_agrees l0 u0) rfl
def v_proposals (S : MS) (z0 : Int) : Int := rv (gM S z0) (true) (true) ((opens S z0))
theorem ea_proposals {L : LSt} {z0 : Int} (l0 : -2147483648 ≤ z0) (u0 : z0 < 2147483648) : w_proposals (I z0) L = some (.ok (I (v_proposals (zS L) z0)), L) := by
  unfold w_proposals v_proposals lqe
  simp only [toInt_I l0 u0, lres_rs3]
theorem ev_proposals {α : Type} {f : Int32 → LX α} {L : LSt} {z0 : Int} (l0 : -2147483648 ≤ z0) (u0 : z0 < 2147483648) : lb (w_proposals (I z0)) f L = f (I (v_proposals (zS L) z0)) L := E_b _ _ (ea_proposals l0 u0) rfl
def v_proposalAt (S : MS) (z0 z1 : Int) : Int := rv (gM S z0 && decide (0 ≤ z1 ∧ z1 < opens S z0)) (true) (true) ((nth (opC S z0) z1 (mf S 29).toNat))
theorem ea_proposalAt {L : LSt} {z0 z1 : Int} (l0 : -2147483648 ≤ z0) (u0 : z0 < 2147483648) (l1 : -2147483648 ≤ z1) (u1 : z1 < 2147483648) : w_proposalAt (I z0) (I z1) L = some (.ok (I (v_proposalAt (zS L) z0 z1)), L) := by
  unfold w_proposalAt v_proposalAt lqe
  simp only [toInt_I l0 u0, toInt_I l1 u1, lres_rs3]
theorem ev_proposalAt {α : Type} {f : Int32 → LX α} {L : LSt} {z0 z1 : Int} (l0 : -2147483648 ≤ z0) (u0 : z0 < 2147483648) (l1 : -2147483648 ≤ z1) (u1 : z1 < 2147483648) : lb (w_proposalAt (I z0) (I z1)) f L = f (I (v_proposalAt (zS L) z0 z1)) L := E_b _ _ (ea_proposalAt l0 u0 l1 u1) rfl
def v_rank (S : MS) (z0 z1 : Int) : Int := rv (gP z0) (gW z1) (true) ((rkM S z0 z1 (mf S 3).toNat))
theorem ea_rank {L : LSt} {z0 z1 : Int} (l0 : -2147483648 ≤ z0) (u0 : z0 < 2147483648) (l1 : -2147483648 ≤ z1) (u1 : z1 < 2147483648) : w_rank (I z0) (I z1) L = some (.ok (I (v_rank (zS L) z0 z1)), L) := by
  unfold w_rank v_rank lqe
  simp only [toInt_I l0 u0, toInt_I l1 u1, lres_rs3]
theorem ev_rank {α : Type} {f : Int32 → LX α} {L : LSt} {z0 z1 : Int} (l0 : -2147483648 ≤ z0) (u0 : z0 < 2147483648) (l1 : -2147483648 ≤ z1) (u1 : z1 < 2147483648) : lb (w_rank (I z0) (I z1)) f L = f (I (v_rank (zS L) z0 z1)) L := E_b _ _ (ea_rank l0 u0 l1 u1) rfl
def v_mark (S : MS) (z0 : Int) : Int := rv (gP z0) (true) (true) ((ma S 27 z0))
theorem ea_mark {L : LSt} {z0 : Int} (l0 : -2147483648 ≤ z0) (u0 : z0 < 2147483648) : w_mark (I z0) L = some (.ok (I (v_mark (zS L) z0)), L) := by
  unfold w_mark v_mark lqe
  simp only [toInt_I l0 u0, lres_rs3]
theorem ev_mark {α : Type} {f : Int32 → LX α} {L : LSt} {z0 : Int} (l0 : -2147483648 ≤ z0) (u0 : z0 < 2147483648) : lb (w_mark (I z0)) f L = f (I (v_mark (zS L) z0)) L := E_b _ _ (ea_mark l0 u0) rfl
def v_changes (S : MS) (z0 z1 : Int) : Int := rv (gP z0) (gMk S z0 z1) (gFl S z0 z1) ((cnt (abC S z0 z1) (mf S 3).toNat))
theorem ea_changes {L : LSt} {z0 z1 : Int} (l0 : -2147483648 ≤ z0) (u0 : z0 < 2147483648) (l1 : -2147483648 ≤ z1) (u1 : z1 < 2147483648) : w_changes (I z0) (I z1) L = some (.ok (I (v_changes (zS L) z0 z1)), L) := by
  unfold w_changes v_changes lqe
  simp only [toInt_I l0 u0, toInt_I l1 u1, lres_rs3]
theorem ev_changes {α : Type} {f : Int32 → LX α} {L : LSt} {z0 z1 : Int} (l0 : -2147483648 ≤ z0) (u0 : z0 < 2147483648) (l1 : -2147483648 ≤ z1) (u1 : z1 < 2147483648) : lb (w_changes (I z0) (I z1)) f L = f (I (v_changes (zS L) z0 z1)) L := E_b _ _ (ea_changes l0 u0 l1 u1) rfl
def v_changeAt (S : MS) (z0 z1 z2 : Int) : Int := if (gP z0 && gMk S z0 z1 && gFl S z0 z1) = true then rv (decide (0 ≤ z2 ∧ z2 < cnt (abC S z0 z1) (mf S 3).toNat)) true true (lastTo (chgC S z0 z1 z2) (mf S 3).toNat) else rv (gP z0) (gMk S z0 z1) (gFl S z0 z1) 0
theorem ea_changeAt {L : LSt} {z0 z1 z2 : Int} (l0 : -2147483648 ≤ z0) (u0 : z0 < 2147483648) (l1 : -2147483648 ≤ z1) (u1 : z1 < 2147483648) (l2 : -2147483648 ≤ z2) (u2 : z2 < 2147483648) : w_changeAt (I z0) (I z1) (I z2) L = some (.ok (I (v_changeAt (zS L) z0 z1 z2)), L) := by
  unfold w_changeAt v_changeAt lqe
  simp only [toInt_I l0 u0, toInt_I l1 u1, toInt_I l2 u2]
  by_cases g : (gP z0 && gMk (zS L) z0 z1 && gFl (zS L) z0 z1) = true
  · rw [if_pos g, if_pos g, lres_rs3]
  · rw [if_neg g, if_neg g, lres_rs3]
theorem ev_changeAt {α : Type} {f : Int32 → LX α} {L : LSt} {z0 z1 z2 : Int} (l0 : -2147483648 ≤ z0) (u0 : z0 < 2147483648) (l1 : -2147483648 ≤ z1) (u1 : z1 < 2147483648) (l2 : -2147483648 ≤ z2) (u2 : z2 < 2147483648) : lb (w_changeAt (I z0) (I z1) (I z2)) f L = f (I (v_changeAt (zS L) z0 z1 z2)) L := E_b _ _ (ea_changeAt l0 u0 l1 u1 l2 u2) rfl
noncomputable def v_firstFree (S : MS) (z0 z1 z2 : Int) : Int := if gF z0 z1 z2 = true then ffO (bsy S z0) z1 z2 else -1000002
theorem ea_firstFree {L : LSt} {z0 z1 z2 : Int} (l0 : -2147483648 ≤ z0) (u0 : z0 < 2147483648) (l1 : -2147483648 ≤ z1) (u1 : z1 < 2147483648) (l2 : -2147483648 ≤ z2) (u2 : z2 < 2147483648) : w_firstFree (I z0) (I z1) (I z2) L = some (.ok (I (v_firstFree (zS L) z0 z1 z2)), L) := by
  unfold w_firstFree v_firstFree lqe
  simp only [toInt_I l0 u0, toInt_I l1 u1, toInt_I l2 u2]
  by_cases g : gF z0 z1 z2 = true
  · rw [if_pos g, if_pos g]; rfl
  · rw [if_neg g, if_neg g]; exact congrArg (fun x => some (Except.ok x, L)) ec_2
theorem ev_firstFree {α : Type} {f : Int32 → LX α} {L : LSt} {z0 z1 z2 : Int} (l0 : -2147483648 ≤ z0) (u0 : z0 < 2147483648) (l1 : -2147483648 ≤ z1) (u1 : z1 < 2147483648) (l2 : -2147483648 ≤ z2) (u2 : z2 < 2147483648) : lb (w_firstFree (I z0) (I z1) (I z2)) f L = f (I (v_firstFree (zS L) z0 z1 z2)) L := E_b _ _ (ea_firstFree l0 u0 l1 u1 l2 u2) rfl
noncomputable def v_firstFreeByHours (S : MS) (z0 z1 z2 : Int) : Int := if gF z0 z1 z2 = true then ffO (bsy S z0) z1 z2 else -1000002
theorem ea_firstFreeByHours {L : LSt} {z0 z1 z2 : Int} (l0 : -2147483648 ≤ z0) (u0 : z0 < 2147483648) (l1 : -2147483648 ≤ z1) (u1 : z1 < 2147483648) (l2 : -2147483648 ≤ z2) (u2 : z2 < 2147483648) : w_firstFreeByHours (I z0) (I z1) (I z2) L = some (.ok (I (v_firstFreeByHours (zS L) z0 z1 z2)), L) := by
  unfold w_firstFreeByHours v_firstFreeByHours lqe
  simp only [toInt_I l0 u0, toInt_I l1 u1, toInt_I l2 u2]
  by_cases g : gF z0 z1 z2 = true
  · rw [if_pos g, if_pos g]; rfl
  · rw [if_neg g, if_neg g]; exact congrArg (fun x => some (Except.ok x, L)) ec_2
theorem ev_firstFreeByHours {α : Type} {f : Int32 → LX α} {L : LSt} {z0 z1 z2 : Int} (l0 : -2147483648 ≤ z0) (u0 : z0 < 2147483648) (l1 : -2147483648 ≤ z1) (u1 : z1 < 2147483648) (l2 : -2147483648 ≤ z2) (u2 : z2 < 2147483648) : lb (w_firstFreeByHours (I z0) (I z1) (I z2)) f L = f (I (v_firstFreeByHours (zS L) z0 z1 z2)) L := E_b _ _ (ea_firstFreeByHours l0 u0 l1 u1 l2 u2) rfl
def v_lineLength (S : MS) (z0 : Int) : Int := rv (gK S z0) true true ((lineL S z0).length : Nat)
theorem ea_lineLength {L : LSt} {z0 : Int} (l0 : -2147483648 ≤ z0) (u0 : z0 < 2147483648) : w_lineLength (I z0) L = some (.ok (I (v_lineLength (zS L) z0)), L) := by
  unfold w_lineLength v_lineLength lqe
  simp only [toInt_I l0 u0, lres_rs3]
theorem ev_lineLength {α : Type} {f : Int32 → LX α} {L : LSt} {z0 : Int} (l0 : -2147483648 ≤ z0) (u0 : z0 < 2147483648) : lb (w_lineLength (I z0)) f L = f (I (v_lineLength (zS L) z0)) L := E_b _ _ (ea_lineLength l0 u0) rfl
def v_lineChar (S : MS) (z0 z1 : Int) : Int := rv (gK S z0 && decide (0 ≤ z1 ∧ z1 < (lineL S z0).length)) true true ((lineL S z0).getD z1.toNat 0)
theorem ea_lineChar {L : LSt} {z0 z1 : Int} (l0 : -2147483648 ≤ z0) (u0 : z0 < 2147483648) (l1 : -2147483648 ≤ z1) (u1 : z1 < 2147483648) : w_lineChar (I z0) (I z1) L = some (.ok (I (v_lineChar (zS L) z0 z1)), L) := by
  unfold w_lineChar v_lineChar lqe
  simp only [toInt_I l0 u0, toInt_I l1 u1, lres_rs3]
theorem ev_lineChar {α : Type} {f : Int32 → LX α} {L : LSt} {z0 z1 : Int} (l0 : -2147483648 ≤ z0) (u0 : z0 < 2147483648) (l1 : -2147483648 ≤ z1) (u1 : z1 < 2147483648) : lb (w_lineChar (I z0) (I z1)) f L = f (I (v_lineChar (zS L) z0 z1)) L := E_b _ _ (ea_lineChar l0 u0 l1 u1) rfl
/-! what the changes do -/
theorem u_setOffset {L : LSt} {z0 z1 : Int} (ht : zT L + 2 ≤ 600) (l0 : -2147483648 ≤ z0) (u0 : z0 < 2147483648) (l1 : -2147483648 ≤ z1) (u1 : z1 < 2147483648) : w_setOffset (I z0) (I z1) L = if ((gZ z0) && (gI z1) && (true)) = true then some (.ok (I ((ma (zS L) 0 z0))), lst L (seta (zS L) 0 z0 z1) 0) else some (.ok (I (rv (gZ z0) (gI z1) (true) ((ma (zS L) 0 z0)))), L) := by
  unfold w_setOffset
  simp only [toInt_I l0 u0, toInt_I l1 u1]
  exact lu_val ht rfl
theorem u_setSummer {L : LSt} {z0 z1 z2 : Int} (ht : zT L + 2 ≤ 600) (l0 : -2147483648 ≤ z0) (u0 : z0 < 2147483648) (l1 : -2147483648 ≤ z1) (u1 : z1 < 2147483648) (l2 : -2147483648 ≤ z2) (u2 : z2 < 2147483648) : w_setSummer (I z0) (I z1) (I z2) L = if ((gZ z0) && (gSu z1 z2) && (true)) = true then some (.ok (I ((ma (zS L) 1 z0))), lst L (seta (seta (zS L) 1 z0 z1) 2 z0 z2) 0) else some (.ok (I (rv (gZ z0) (gSu z1 z2) (true) ((ma (zS L) 1 z0)))), L) := by
  unfold w_setSummer
  simp only [toInt_I l0 u0, toInt_I l1 u1, toInt_I l2 u2]
  exact lu_val ht rfl
theorem u_make {L : LSt} {z0 z1 z2 z3 z4 : Int} (ht : zT L + 2 ≤ 600) (l0 : -2147483648 ≤ z0) (u0 : z0 < 2147483648) (l1 : -2147483648 ≤ z1) (u1 : z1 < 2147483648) (l2 : -2147483648 ≤ z2) (u2 : z2 < 2147483648) (l3 : -2147483648 ≤ z3) (u3 : z3 < 2147483648) (l4 : -2147483648 ≤ z4) (u4 : z4 < 2147483648) : w_make (I z0) (I z1) (I z2) (I z3) (I z4) L = if ((gP z0 && gZ z1) && (gT z2 z3 z4) && (decide (mf (zS L) 3 < 8))) = true then some (.ok (I ((mf (zS L) 3))), lst L (sMake (zS L) z0 z1 z2 z3 z4) 1) else some (.ok (I (rv (gP z0 && gZ z1) (gT z2 z3 z4) (decide (mf (zS L) 3 < 8)) ((mf (zS L) 3)))), L) := by
  unfold w_make
  simp only [toInt_I l0 u0, toInt_I l1 u1, toInt_I l2 u2, toInt_I l3 u3, toInt_I l4 u4]
  exact lu_val ht rfl
theorem u_time {L : LSt} {z0 z1 z2 z3 : Int} (ht : zT L + 2 ≤ 600) (l0 : -2147483648 ≤ z0) (u0 : z0 < 2147483648) (l1 : -2147483648 ≤ z1) (u1 : z1 < 2147483648) (l2 : -2147483648 ≤ z2) (u2 : z2 < 2147483648) (l3 : -2147483648 ≤ z3) (u3 : z3 < 2147483648) : w_time (I z0) (I z1) (I z2) (I z3) L = if ((gM (zS L) z0) && (gT z1 z2 z3) && (gH (zS L) z0)) = true then some (.ok (I ((rI (zS L) z0 9))), lst L (sTime (zS L) z0 z1 z2 z3) 1) else some (.ok (I (rv (gM (zS L) z0) (gT z1 z2 z3) (gH (zS L) z0) ((rI (zS L) z0 9)))), L) := by
  unfold w_time
  simp only [toInt_I l0 u0, toInt_I l1 u1, toInt_I l2 u2, toInt_I l3 u3]
  exact lu_val ht rfl
theorem u_repeat {L : LSt} {z0 z1 z2 z3 : Int} (ht : zT L + 2 ≤ 600) (l0 : -2147483648 ≤ z0) (u0 : z0 < 2147483648) (l1 : -2147483648 ≤ z1) (u1 : z1 < 2147483648) (l2 : -2147483648 ≤ z2) (u2 : z2 < 2147483648) (l3 : -2147483648 ≤ z3) (u3 : z3 < 2147483648) : w_repeat (I z0) (I z1) (I z2) (I z3) L = if ((gM (zS L) z0) && (gR z1 z2 z3) && (gH (zS L) z0)) = true then some (.ok (I ((rI (zS L) z0 9))), lst L (sRepeat (zS L) z0 z1 z2 z3) 1) else some (.ok (I (rv (gM (zS L) z0) (gR z1 z2 z3) (gH (zS L) z0) ((rI (zS L) z0 9)))), L) := by
  unfold w_repeat
  simp only [toInt_I l0 u0, toInt_I l1 u1, toInt_I l2 u2, toInt_I l3 u3]
  exact lu_val ht rfl
theorem u_drop {L : LSt} {z0 z1 : Int} (ht : zT L + 2 ≤ 600) (l0 : -2147483648 ≤ z0) (u0 : z0 < 2147483648) (l1 : -2147483648 ≤ z1) (u1 : z1 < 2147483648) : w_drop (I z0) (I z1) L = if ((gM (zS L) z0) && (gD z1) && (gM (zS L) z0 && gD z1 && gH (zS L) z0 && gN (zS L) z0 z1)) = true then some (.ok (I ((rI (zS L) z0 9))), lst L (sDrop (zS L) z0 z1) 1) else some (.ok (I (rv (gM (zS L) z0) (gD z1) (gM (zS L) z0 && gD z1 && gH (zS L) z0 && gN (zS L) z0 z1) ((rI (zS L) z0 9)))), L) := by
  unfold w_drop
  simp only [toInt_I l0 u0, toInt_I l1 u1]
  exact lu_val ht rfl
theorem u_add {L : LSt} {z0 z1 : Int} (ht : zT L + 2 ≤ 600) (l0 : -2147483648 ≤ z0) (u0 : z0 < 2147483648) (l1 : -2147483648 ≤ z1) (u1 : z1 < 2147483648) : w_add (I z0) (I z1) L = if ((gM (zS L) z0) && (gD z1) && (gM (zS L) z0 && gD z1 && gH (zS L) z0 && !gN (zS L) z0 z1)) = true then some (.ok (I ((rI (zS L) z0 9))), lst L (sAdd (zS L) z0 z1) 1) else some (.ok (I (rv (gM (zS L) z0) (gD z1) (gM (zS L) z0 && gD z1 && gH (zS L) z0 && !gN (zS L) z0 z1) ((rI (zS L) z0 9)))), L) := by
  unfold w_add
  simp only [toInt_I l0 u0, toInt_I l1 u1]
  exact lu_val ht rfl
theorem u_move {L : LSt} {z0 z1 z2 : Int} (ht : zT L + 2 ≤ 600) (l0 : -2147483648 ≤ z0) (u0 : z0 < 2147483648) (l1 : -2147483648 ≤ z1) (u1 : z1 < 2147483648) (l2 : -2147483648 ≤ z2) (u2 : z2 < 2147483648) : w_move (I z0) (I z1) (I z2) L = if ((gM (zS L) z0) && (gD z1 && gC z2) && (gM (zS L) z0 && (gD z1 && gC z2) && gH (zS L) z0 && gN (zS L) z0 z1)) = true then some (.ok (I ((rI (zS L) z0 9))), lst L (sMove (zS L) z0 z1 z2) 1) else some (.ok (I (rv (gM (zS L) z0) (gD z1 && gC z2) (gM (zS L) z0 && (gD z1 && gC z2) && gH (zS L) z0 && gN (zS L) z0 z1) ((rI (zS L) z0 9)))), L) := by
  unfold w_move
  simp only [toInt_I l0 u0, toInt_I l1 u1, toInt_I l2 u2]
  exact lu_val ht rfl
theorem u_cancel {L : LSt} {z0 : Int} (ht : zT L + 2 ≤ 600) (l0 : -2147483648 ≤ z0) (u0 : z0 < 2147483648) : w_cancel (I z0) L = if ((gM (zS L) z0) && (true) && (gH (zS L) z0)) = true then some (.ok (I ((rI (zS L) z0 9))), lst L (sCancel (zS L) z0) 1) else some (.ok (I (rv (gM (zS L) z0) (true) (gH (zS L) z0) ((rI (zS L) z0 9)))), L) := by
  unfold w_cancel
  simp only [toInt_I l0 u0]
  exact lu_val ht rfl
theorem u_invite {L : LSt} {z0 z1 : Int} (b : Bool) (ht : zT L + 2 ≤ 600) (l0 : -2147483648 ≤ z0) (u0 : z0 < 2147483648) (l1 : -2147483648 ≤ z1) (u1 : z1 < 2147483648) : w_invite (I z0) (I z1) (b2i b) L = if ((gM (zS L) z0 && gP z1) && (gM (zS L) z0 && gP z1 && decide (¬ ma (zS L) 4 z0 = z1)) && (gM (zS L) z0 && gP z1 && gH (zS L) z0 && !gS (zS L) z0 z1 b)) = true then some (.ok (I ((rI (zS L) z0 9))), lst L (sInvite (zS L) z0 z1 b) 1) else some (.ok (I (rv (gM (zS L) z0 && gP z1) (gM (zS L) z0 && gP z1 && decide (¬ ma (zS L) 4 z0 = z1)) (gM (zS L) z0 && gP z1 && gH (zS L) z0 && !gS (zS L) z0 z1 b) ((rI (zS L) z0 9)))), L) := by
  have e : decide (b2i b = 1) = b := by cases b <;> decide
  unfold w_invite
  rw [if_pos (zb2 rfl)]
  simp only [e, toInt_I l0 u0, toInt_I l1 u1]
  exact lu_val ht rfl
theorem u_send {L : LSt} {z0 : Int} (ht : zT L + 2 ≤ 600) (l0 : -2147483648 ≤ z0) (u0 : z0 < 2147483648) : w_send (I z0) L = if ((gM (zS L) z0) && (true) && (decide (mf (zS L) 29 + cntB (sendSet (zS L) z0) 5 ≤ 150))) = true then some (.ok (I ((cntB (sendSet (zS L) z0) 5))), lst L (sSend (zS L) z0) 0) else some (.ok (I (rv (gM (zS L) z0) (true) (decide (mf (zS L) 29 + cntB (sendSet (zS L) z0) 5 ≤ 150)) ((cntB (sendSet (zS L) z0) 5)))), L) := by
  unfold w_send
  simp only [toInt_I l0 u0]
  exact lu_val ht rfl
theorem u_take {L : LSt} {z0 : Int} (ht : zT L + 2 ≤ 600) (l0 : -2147483648 ≤ z0) (u0 : z0 < 2147483648) : w_take (I z0) L = if ((gK (zS L) z0) && (true) && (isOpenB (zS L) z0)) = true then some (.ok (I ((rI (zS L) (ma (zS L) 34 z0) 9))), lst L (sTake (zS L) z0) 1) else some (.ok (I (rv (gK (zS L) z0) (true) (isOpenB (zS L) z0) ((rI (zS L) (ma (zS L) 34 z0) 9)))), L) := by
  unfold w_take
  simp only [toInt_I l0 u0]
  exact lu_val ht rfl
theorem u_refuse {L : LSt} {z0 : Int} (ht : zT L + 2 ≤ 600) (l0 : -2147483648 ≤ z0) (u0 : z0 < 2147483648) : w_refuse (I z0) L = if ((gK (zS L) z0) && (true) && (isOpenB (zS L) z0)) = true then some (.ok (I ((opens (seta (zS L) 43 z0 1) (ma (zS L) 34 z0)))), lst L (seta (zS L) 43 z0 1) 0) else some (.ok (I (rv (gK (zS L) z0) (true) (isOpenB (zS L) z0) ((opens (seta (zS L) 43 z0 1) (ma (zS L) 34 z0))))), L) := by
  unfold w_refuse
  simp only [toInt_I l0 u0]
  exact lu_val ht rfl
theorem u_propose {L : LSt} {z0 z1 z2 z3 : Int} (ht : zT L + 2 ≤ 600) (l0 : -2147483648 ≤ z0) (u0 : z0 < 2147483648) (l1 : -2147483648 ≤ z1) (u1 : z1 < 2147483648) (l2 : -2147483648 ≤ z2) (u2 : z2 < 2147483648) (l3 : -2147483648 ≤ z3) (u3 : z3 < 2147483648) : w_propose (I z0) (I z1) (I z2) (I z3) L = if ((gP z0 && gM (zS L) z1) && (gD z2 && gC z3) && (gP z0 && gM (zS L) z1 && (gD z2 && gC z3) && gHC (zS L) z0 z1 && gCD (zS L) z0 z1 z2 && decide (mf (zS L) 29 < 150))) = true then some (.ok (I ((mf (zS L) 29))), lst L (sProp (zS L) z0 z1 z2 z3) 0) else some (.ok (I (rv (gP z0 && gM (zS L) z1) (gD z2 && gC z3) (gP z0 && gM (zS L) z1 && (gD z2 && gC z3) && gHC (zS L) z0 z1 && gCD (zS L) z0 z1 z2 && decide (mf (zS L) 29 < 150)) ((mf (zS L) 29)))), L) := by
  unfold w_propose
  simp only [toInt_I l0 u0, toInt_I l1 u1, toInt_I l2 u2, toInt_I l3 u3]
  exact lu_val ht rfl
theorem u_answer {L : LSt} {z0 z1 z2 z3 : Int} (ht : zT L + 2 ≤ 600) (l0 : -2147483648 ≤ z0) (u0 : z0 < 2147483648) (l1 : -2147483648 ≤ z1) (u1 : z1 < 2147483648) (l2 : -2147483648 ≤ z2) (u2 : z2 < 2147483648) (l3 : -2147483648 ≤ z3) (u3 : z3 < 2147483648) : w_answer (I z0) (I z1) (I z2) (I z3) L = if ((gP z0 && gM (zS L) z1) && (gA z2 z3) && (gP z0 && gM (zS L) z1 && gA z2 z3 && gHC (zS L) z0 z1 && (decide (z2 = -1) || gCD (zS L) z0 z1 z2) && decide (mf (zS L) 29 < 150))) = true then some (.ok (I ((mf (zS L) 29))), lst L (sRep (zS L) z0 z1 z2 z3) 1) else some (.ok (I (rv (gP z0 && gM (zS L) z1) (gA z2 z3) (gP z0 && gM (zS L) z1 && gA z2 z3 && gHC (zS L) z0 z1 && (decide (z2 = -1) || gCD (zS L) z0 z1 z2) && decide (mf (zS L) 29 < 150)) ((mf (zS L) 29)))), L) := by
  unfold w_answer
  simp only [toInt_I l0 u0, toInt_I l1 u1, toInt_I l2 u2, toInt_I l3 u3]
  exact lu_val ht rfl
theorem u_delegate {L : LSt} {z0 z1 z2 : Int} (ht : zT L + 2 ≤ 600) (l0 : -2147483648 ≤ z0) (u0 : z0 < 2147483648) (l1 : -2147483648 ≤ z1) (u1 : z1 < 2147483648) (l2 : -2147483648 ≤ z2) (u2 : z2 < 2147483648) : w_delegate (I z0) (I z1) (I z2) L = if ((gP z0 && gM (zS L) z1 && gP z2) && (gP z0 && gM (zS L) z1 && gP z2 && gO (zS L) z0 z1 z2) && (gP z0 && gM (zS L) z1 && gP z2 && gHC (zS L) z0 z1 && decide (mf (zS L) 29 + 2 ≤ 150))) = true then some (.ok (I ((mf (zS L) 29))), lst L (sDel (zS L) z0 z1 z2) 1) else some (.ok (I (rv (gP z0 && gM (zS L) z1 && gP z2) (gP z0 && gM (zS L) z1 && gP z2 && gO (zS L) z0 z1 z2) (gP z0 && gM (zS L) z1 && gP z2 && gHC (zS L) z0 z1 && decide (mf (zS L) 29 + 2 ≤ 150)) ((mf (zS L) 29)))), L) := by
  unfold w_delegate
  simp only [toInt_I l0 u0, toInt_I l1 u1, toInt_I l2 u2]
  exact lu_val ht rfl
theorem u_deliver {L : LSt} {z0 : Int} (ht : zT L + 2 ≤ 600) (l0 : -2147483648 ≤ z0) (u0 : z0 < 2147483648) : w_deliver (I z0) L = if ((gK (zS L) z0) && (true) && (true)) = true then some (.ok (I ((if (ansDlv (zS L) z0) = true then 1 else 0))), lst L (stDlv (zS L) z0) 1) else some (.ok (I (rv (gK (zS L) z0) (true) (true) ((if (ansDlv (zS L) z0) = true then 1 else 0)))), L) := by
  unfold w_deliver
  simp only [toInt_I l0 u0]
  exact lu_val ht (congrArg (rs3 _ _ _) (b2i_I _))
