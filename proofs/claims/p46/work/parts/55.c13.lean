def ruR (ri : Nat → Int) (d : Int) : Bool := decide (0 ≤ d - ri 11 ∧ (d - ri 11) % ri 14 = 0 ∧ hb (ri 15) (d % 7) = true)
def dfR (ri : Nat → Int) (rl : Nat → Int64) : Nat → Int × Int64
  | 0 => (0, rl 20)
  | j + 1 => if ruR ri j = true ∧ (dfR ri rl j).1 < ri 16 then ((dfR ri rl j).1 + 1, if hl (rl 21) j = true then (dfR ri rl j).2 else (dfR ri rl j).2 ||| bitL j) else dfR ri rl j
def datR (ri : Nat → Int) (rl : Nat → Int64) : Int64 := (dfR ri rl 60).2
theorem dfold_R (S : MS) (v : Int) : ∀ j, dfold S v j = dfR (fun J => ma S J v) (fun J => ml S J v) j := by
  intro j
  induction j with
  | zero => rfl
  | succ j ih =>
    show (if ofRule S v j = true ∧ (dfold S v j).1 < ma S 16 v then ((dfold S v j).1 + 1, if hl (ml S 21 v) j = true then (dfold S v j).2 else (dfold S v j).2 ||| ((1 : Int64) <<< ((I j).toInt64 &&& 63))) else dfold S v j) = _
    rw [ih]; rfl
theorem dts_R (S : MS) (v : Int) : dts S v = datR (fun J => ma S J v) (fun J => ml S J v) := by unfold dts datR; rw [dfold_R]
def rdR (ri : Nat → Int) : Nat → Int × Int64
  | 0 => (0, 0)
  | j + 1 => if ruR ri j = true ∧ (rdR ri j).1 < ri 16 then ((rdR ri j).1 + 1, (rdR ri j).2 ||| bitL j) else rdR ri j
theorem rdR_r (ri : Nat → Int) : ∀ j : Nat, 0 ≤ (rdR ri j).1 ∧ (rdR ri j).1 ≤ j := by
  intro j
  induction j with
  | zero => exact ⟨Int.le_refl _, Int.le_refl _⟩
  | succ j ih =>
    unfold rdR
    split
    · simp only; omega
    · omega
theorem LB_0 : LB 0 := by unfold LB; decide +kernel
theorem hl_dfR (ri : Nat → Int) (rl : Nat → Int64) (h20 : LB (rl 20)) : ∀ n : Nat, n ≤ 60 → (dfR ri rl n).1 = (rdR ri n).1 ∧ LB (dfR ri rl n).2 ∧ LB (rdR ri n).2 ∧ ∀ e : Int, 0 ≤ e → e < 60 → hl (dfR ri rl n).2 e = (hl (rl 20) e || (hl (rdR ri n).2 e && !hl (rl 21) e)) := by
  intro n
  induction n with
  | zero =>
    intro _
    refine ⟨rfl, h20, LB_0, fun e e0 e1 => ?_⟩
    show hl (rl 20) e = (hl (rl 20) e || (hl 0 e && _))
    rw [hl0 e0 e1, Bool.false_and, Bool.or_false]
  | succ n ih =>
    intro hn
    obtain ⟨a1, a2, a3, a4⟩ := ih (by omega)
    have e1 : dfR ri rl (n + 1) = if ruR ri n = true ∧ (dfR ri rl n).1 < ri 16 then ((dfR ri rl n).1 + 1, if hl (rl 21) n = true then (dfR ri rl n).2 else (dfR ri rl n).2 ||| bitL n) else dfR ri rl n := rfl
    have e2 : rdR ri (n + 1) = if ruR ri n = true ∧ (rdR ri n).1 < ri 16 then ((rdR ri n).1 + 1, (rdR ri n).2 ||| bitL n) else rdR ri n := rfl
    rw [e1, e2, a1]
    by_cases c : ruR ri n = true ∧ (rdR ri n).1 < ri 16
    · rw [if_pos c, if_pos c]
      have hb := LB_bit (d := (n : Int)) (by omega) (by omega)
      by_cases d : hl (rl 21) n = true
      · rw [if_pos d]
        refine ⟨rfl, a2, LB_or a3 hb, fun e x y => ?_⟩
        show hl (dfR ri rl n).2 e = (hl (rl 20) e || (hl ((rdR ri n).2 ||| bitL n) e && !hl (rl 21) e))
        rw [a4 e x y, hl_or x y, hl_bit (by omega) (by omega) x y]
        by_cases q : e = n
        · subst q; rw [d, decide_eq_true rfl, Bool.not_true, Bool.and_false, Bool.and_false]
        · rw [decide_eq_false q, Bool.or_false]
      · rw [if_neg d]
        refine ⟨rfl, LB_or a2 hb, LB_or a3 hb, fun e x y => ?_⟩
        show hl ((dfR ri rl n).2 ||| bitL n) e = (hl (rl 20) e || (hl ((rdR ri n).2 ||| bitL n) e && !hl (rl 21) e))
        rw [hl_or x y, hl_or x y, a4 e x y, hl_bit (by omega) (by omega) x y]
        by_cases q : e = n
        · subst q
          rw [Bool.eq_false_iff.mpr d, decide_eq_true rfl, Bool.or_true, Bool.or_true, Bool.not_false, Bool.and_true, Bool.or_true]
        · rw [decide_eq_false q, Bool.or_false, Bool.or_false]
    · rw [if_neg c, if_neg c]
      exact ⟨a1, a2, a3, a4⟩
theorem datR_eq (ri : Nat → Int) (rl : Nat → Int64) (h20 : LB (rl 20)) : rl 20 ||| ((rdR ri 60).2 &&& (rl 21 ^^^ (-1))) = datR ri rl := by
  obtain ⟨a1, a2, a3, a4⟩ := hl_dfR ri rl h20 60 (Nat.le_refl _)
  refine LB_ext (LB_or h20 (LB_and a3)) a2 fun e e0 e1 => ?_
  show _ = hl (dfR ri rl 60).2 e
  rw [a4 e e0 e1, hl_or e0 e1, hl_and e0 e1, hl_not e0 e1]
theorem datR_lb (ri : Nat → Int) (rl : Nat → Int64) (h20 : LB (rl 20)) : LB (datR ri rl) := (hl_dfR ri rl h20 60 (Nat.le_refl _)).2.1
def hit (ri : Nat → Int) (j : Int) : Prop := 0 ≤ j - ri 11 ∧ (j - ri 11) % ri 14 = 0
def htN (ri : Nat → Int) : Nat → Int
  | 0 => 0
  | j + 1 => htN ri j + (if (0 ≤ (j : Int) - ri 11 ∧ ((j : Int) - ri 11) % ri 14 = 0) then 1 else 0)
theorem ht_inv (ri : Nat → Int) (hF : 0 ≤ ri 11) (hs : 1 ≤ ri 14) : ∀ j : Nat, (0 ≤ htN ri j ∧ (j : Int) ≤ ri 11 + ri 14 * htN ri j ∧ (htN ri j = 0 ∨ ri 11 + ri 14 * (htN ri j - 1) < j)) ∧ ((j : Int) = ri 11 + ri 14 * htN ri j ↔ (0 ≤ (j : Int) - ri 11 ∧ ((j : Int) - ri 11) % ri 14 = 0)) := by
  have key : ∀ (j : Nat) (k : Int), 0 ≤ k → (j : Int) ≤ ri 11 + ri 14 * k → (k = 0 ∨ ri 11 + ri 14 * (k - 1) < j) → ((j : Int) = ri 11 + ri 14 * k ↔ (0 ≤ (j : Int) - ri 11 ∧ ((j : Int) - ri 11) % ri 14 = 0)) := by
    intro j k k0 k1 k2
    constructor
    · intro e
      have h1 : (j : Int) - ri 11 = ri 14 * k := by omega
      rw [h1]
      exact ⟨Int.mul_nonneg (by omega) k0, Int.mul_emod_right _ _⟩
    · rintro ⟨h1, h2⟩
      have h3 := Int.mul_ediv_add_emod ((j : Int) - ri 11) (ri 14)
      rw [h2, Int.add_zero] at h3
      generalize ((j : Int) - ri 11) / ri 14 = q at h3
      have q1 : q ≤ k := by
        by_cases c : k < q
        · exfalso
          have : ri 14 * (k + 1) ≤ ri 14 * q := Int.mul_le_mul_of_nonneg_left (by omega) (by omega)
          rw [Int.mul_add, Int.mul_one] at this
          omega
        · omega
      rcases k2 with e | e
      · subst e
        have q0 : 0 ≤ q := by
          by_cases c : q < 0
          · exfalso
            have : ri 14 * q ≤ ri 14 * (-1) := Int.mul_le_mul_of_nonneg_left (by omega) (by omega)
            omega
          · omega
        have : q = 0 := by omega
        subst this
        omega
      · have q2 : k ≤ q := by
          by_cases c : q < k
          · exfalso
            have : ri 14 * q ≤ ri 14 * (k - 1) := Int.mul_le_mul_of_nonneg_left (by omega) (by omega)
            omega
          · omega
        have : q = k := by omega
        subst this
        omega
  have inv : ∀ j : Nat, 0 ≤ htN ri j ∧ (j : Int) ≤ ri 11 + ri 14 * htN ri j ∧ (htN ri j = 0 ∨ ri 11 + ri 14 * (htN ri j - 1) < j) := by
    intro j
    induction j with
    | zero => exact ⟨Int.le_refl _, by show (0 : Int) ≤ ri 11 + ri 14 * 0; omega, Or.inl rfl⟩
    | succ j ih =>
      have hk := key j (htN ri j) ih.1 ih.2.1 ih.2.2
      have es : htN ri (j + 1) = htN ri j + (if (0 ≤ (j : Int) - ri 11 ∧ ((j : Int) - ri 11) % ri 14 = 0) then 1 else 0) := rfl
      rw [es]
      generalize htN ri j = k at ih hk ⊢
      by_cases c : (0 ≤ (j : Int) - ri 11 ∧ ((j : Int) - ri 11) % ri 14 = 0)
      · rw [if_pos c]
        have e := hk.mpr c
        refine ⟨by omega, by rw [Int.mul_add, Int.mul_one]; omega, Or.inr ?_⟩
        rw [show k + 1 - 1 = k by omega]; omega
      · rw [if_neg c, Int.add_zero]
        have ne : ¬ (j : Int) = ri 11 + ri 14 * k := fun z => c (hk.mp z)
        refine ⟨ih.1, by omega, ?_⟩
        rcases ih.2.2 with z | z
        · exact Or.inl z
        · exact Or.inr (by omega)
  exact fun j => ⟨inv j, key j _ (inv j).1 (inv j).2.1 (inv j).2.2⟩
theorem x_rem {a b : Int} (ha : 0 ≤ a) (ha' : a < 2147483648) (hb : 0 < b) (hb' : b < 2147483648) : xrem (I a) (I b) = xp (I (a % b)) := by
  have hp := e_rem ha ha' hb hb'
  have h0 : ¬ I b = 0 := fun q => by rw [gl0, I_inj (by omega) hb' (by omega) (by omega)] at q; omega
  funext m
  have h1 := congrFun hp ((fun _ _ => 0, fun _ _ => 0, fun _ => 0) : MS)
  unfold prem pp at h1
  rw [if_neg h0] at h1
  have h2 := (Prod.mk.inj (Option.some.inj h1)).1
  show (if I b = 0 then none else some (Except.ok (I a - I a / I b * I b), m)) = _
  rw [if_neg h0, h2]; rfl
section C13
variable {sv : Nat} {m : QM}
def RU (m : QM) (a : Nat) (ri : Nat → Int) : Prop := qty m a = (1, 5, 0) ∧ qfi m 322 a = I (ri 11) ∧ qfi m 325 a = I (ri 14) ∧ qfi m 326 a = I (ri 15) ∧ qfi m 327 a = I (ri 16)
def RB (ri : Nat → Int) : Prop := (0 ≤ ri 11 ∧ ri 11 < 60) ∧ (1 ≤ ri 14 ∧ ri 14 ≤ 28) ∧ (1 ≤ ri 15 ∧ ri 15 ≤ 127) ∧ (1 ≤ ri 16 ∧ ri 16 ≤ 10)
theorem c_daysOfRule {a : Nat} {ri : Nat → Int} (h : RU m a ri) (hb : RB ri) : F_X4_daysOfRule a m = some (.ok (rdR ri 60).2, m) := by
  obtain ⟨h1, h2, h3, h4, h5⟩ := h
  obtain ⟨b1, b2, b3, b4⟩ := hb
  have inv := ht_inv ri b1.1 b2.1
  unfold F_X4_daysOfRule
  simp only [xb_xp, xb_as]
  rw [xb_ok (x_gi rfl h1 h5), xb_ok (x_gi rfl h1 h2)]
  have e0 : ri 11 = ri 11 + ri 14 * htN ri 0 := by show ri 11 = ri 11 + ri 14 * 0; omega
  have e1 : ri 16 = ri 16 - (rdR ri 0).1 := by show ri 16 = ri 16 - 0; omega
  rw [show ((I (ri 11), (0 : Int64), I (ri 16), (0 : Int32)) : Int32 × Int64 × Int32 × Int32) = (I (ri 11 + ri 14 * htN ri 0), (rdR ri 0).2, I (ri 16 - (rdR ri 0).1), I (0 : Nat)) from by rw [← e0, ← e1]; rfl]
  refine Eq.trans (xb_ok (xl_run (fun j => (I (ri 11 + ri 14 * htN ri j), (rdR ri j).2, I (ri 16 - (rdR ri j).1), I j)) (fun _ => m) 60 2000 (fun j hj => ?_) (fun j hj => ?_) ?_ (by decide))) rfl
  · rw [xp_ap, gl60, d_lt (by omega) (by omega) (by omega) (by omega), decide_eq_true (by omega)]
  · obtain ⟨⟨i1, i2, i3⟩, i4⟩ := inv j
    have rr := rdR_r ri j
    have eh : htN ri (j + 1) = htN ri j + (if (0 ≤ (j : Int) - ri 11 ∧ ((j : Int) - ri 11) % ri 14 = 0) then 1 else 0) := rfl
    have er : rdR ri (j + 1) = if ruR ri j = true ∧ (rdR ri j).1 < ri 16 then ((rdR ri j).1 + 1, (rdR ri j).2 ||| bitL j) else rdR ri j := rfl
    rw [eh, er]
    generalize htN ri j = k at i1 i2 i3 i4 ⊢
    have kb : ri 11 + ri 14 * k < 2000 ∧ 0 ≤ ri 11 + ri 14 * k := by
      rcases i3 with z | z
      · subst z; omega
      · rw [Int.mul_sub, Int.mul_one] at z; omega
    have hmul : ri 14 * (k + 1) = ri 14 * k + ri 14 := by rw [Int.mul_add, Int.mul_one]
    generalize hP : ri 14 * k = P at i2 i4 kb hmul ⊢
    generalize rdR ri j = R at rr ⊢
    obtain ⟨r1, r2⟩ := R
    dsimp only at rr ⊢
    rw [d_eq (by omega) (by omega) (by omega) (by omega)]
    by_cases c : (0 ≤ (j : Int) - ri 11 ∧ ((j : Int) - ri 11) % ri 14 = 0)
    · have ej := i4.mpr c
      rw [decide_eq_true ej, if_pos rfl, if_pos c, xb_as, xb_ok (x_gi rfl h1 h3), I_add]
      have eru : ruR ri j = hb (ri 15) ((j : Int) % 7) := by
        unfold ruR
        cases q : hb (ri 15) ((j : Int) % 7)
        · exact decide_eq_false (fun z => absurd z.2.2 (by decide))
        · exact decide_eq_true ⟨c.1, c.2, rfl⟩
      simp only [xb_as]
      rw [xb_ok (xif_and (b := hb (ri 15) ((j : Int) % 7)) (fun _ => by
        rw [xb_ok (x_gi rfl h1 h4), gl7, x_rem (by omega) (by omega) (by omega) (by omega), xb_xp, hb_d, xp_ap]))]
      rw [← eru, gl0, d_lt (by omega) (by omega) (by omega) (by omega), glm1, gl1]
      by_cases d : ruR ri j = true ∧ r1 < ri 16
      · rw [if_pos d, decide_eq_true (by omega), d.1, if_pos (by decide), xb_xp, xb_xp, xp_ap, hmul, I_add, I_add, show ri 11 + (P + ri 14) = ri 11 + P + ri 14 by omega, show ri 16 - (r1 + 1) = ri 16 - r1 + -1 by omega]; rfl
      · rw [if_neg d, if_neg (by
          rw [Bool.and_eq_true, decide_eq_true_eq]
          exact fun z => d ⟨z.2, by omega⟩), xb_xp, xb_xp, xp_ap, hmul, I_add, show ri 11 + (P + ri 14) = ri 11 + P + ri 14 by omega]; rfl
    · have nj : ¬ (j : Int) = ri 11 + P := fun z => c (i4.mp z)
      have nr : ruR ri j = false := decide_eq_false (fun z => c ⟨z.1, z.2.1⟩)
      rw [decide_eq_false nj, if_neg (by decide), if_neg c, Int.add_zero, hP, xb_xp, xp_ap, gl1, I_add, nr, if_neg (fun z => absurd z.1 (by decide))]; rfl
  · rw [xp_ap, gl60, d_lt (by omega) (by omega) (by omega) (by omega), decide_eq_false (by omega)]
end C13
