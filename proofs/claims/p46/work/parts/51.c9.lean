theorem xlr_run {ρ σ : Type} {c : σ → QX Bool} {b : σ → QX (ρ ⊕ σ)} {m : QM} (f : Nat → σ) (N : Nat) : ∀ n k, k ≤ N → N - k < n → (∀ j, j < N → c (f j) m = some (.ok true, m)) → (∀ j, j < N → b (f j) m = some (.ok (.inr (f (j + 1))), m)) → c (f N) m = some (.ok false, m) → xlr n c b (f k) m = some (.ok (.inr (f N)), m) := by
  intro n
  induction n with
  | zero => intro k _ h; exact absurd h (Nat.not_lt_zero _)
  | succ n ih =>
    intro k hk hn h1 h2 h3
    unfold xlr
    by_cases e : k = N
    · subst e; rw [xb_ok h3]; rfl
    · rw [xb_ok (h1 k (by omega))]
      show xb (b (f k)) _ m = _
      rw [xb_ok (h2 k (by omega))]
      exact ih (k + 1) (by omega) (by omega) h1 h2 h3
theorem xlr_stop {ρ σ : Type} {c : σ → QX Bool} {b : σ → QX (ρ ⊕ σ)} {m : QM} {v : ρ} (f : Nat → σ) (N : Nat) : ∀ n k, k ≤ N → N - k < n → (∀ j, j ≤ N → c (f j) m = some (.ok true, m)) → (∀ j, j < N → b (f j) m = some (.ok (.inr (f (j + 1))), m)) → b (f N) m = some (.ok (.inl v), m) → xlr n c b (f k) m = some (.ok (.inl v), m) := by
  intro n
  induction n with
  | zero => intro k _ h; exact absurd h (Nat.not_lt_zero _)
  | succ n ih =>
    intro k hk hn h1 h2 h3
    unfold xlr
    rw [xb_ok (h1 k (by omega))]
    show xb (b (f k)) _ m = _
    by_cases e : k = N
    · subst e; rw [xb_ok h3]; rfl
    · rw [xb_ok (h2 k (by omega))]
      exact ih (k + 1) (by omega) (by omega) h1 h2 h3
theorem first_bad (P : Nat → Bool) : ∀ n, (∀ j, j < n → P j = true) ∨ ∃ j, j < n ∧ P j = false ∧ ∀ k, k < j → P k = true := by
  intro n
  induction n with
  | zero => exact Or.inl fun j h => absurd h (Nat.not_lt_zero _)
  | succ n ih =>
    rcases ih with h | ⟨j, h1, h2, h3⟩
    · cases e : P n
      · exact Or.inr ⟨n, by omega, e, h⟩
      · exact Or.inl fun j hj => by
          by_cases q : j = n
          · subst q; exact e
          · exact h j (by omega)
    · exact Or.inr ⟨j, by omega, h2, h3⟩
theorem allTo_iff {c : Int → Bool} : ∀ n : Nat, allTo c n = true ↔ ∀ k : Nat, k < n → c k = true := by
  intro n
  induction n with
  | zero => exact ⟨fun _ k h => absurd h (Nat.not_lt_zero _), fun _ => rfl⟩
  | succ n ih =>
    show (allTo c n && c n) = true ↔ _
    rw [Bool.and_eq_true, ih]
    constructor
    · intro h k hk
      by_cases q : k = n
      · subst q; exact h.2
      · exact h.1 k (by omega)
    · exact fun h => ⟨fun k hk => h k (by omega), h n (by omega)⟩
section C9
variable {sv : Nat} {G : GM} {S : MS} {m : QM} {t : Int}
theorem asked_ok {i p : Int} (hs : SI t S) (hi : 0 ≤ i) (hi' : i < mf S 3) (hp : 0 ≤ p) (hp' : p < 5) (ha : hb (asked S i) p = true) : hb (ma S 18 (ma S 5 i)) p = false ∧ ma S 4 i ≠ p := by
  have hx := hs.wr.mt hi hi'
  have hv := hs.wr.vs hx.2.1.1 hx.2.1.2
  have hor : ∀ x, x < 32 → ∀ y, y < 5 → ∀ z, z < 5 → hb (orb ((x : Nat) : Int) ((y : Nat) : Int)) ((z : Nat) : Int) = (hb ((x : Nat) : Int) ((z : Nat) : Int) || decide (z = y)) := by decide +kernel
  have orr : ∀ x y z : Int, 0 ≤ x → x < 32 → 0 ≤ y → y < 5 → 0 ≤ z → z < 5 → hb (orb x y) z = (hb x z || decide (z = y)) := fun x y z a b c d e f => by
    obtain ⟨x', rfl⟩ := Int.eq_ofNat_of_zero_le a
    obtain ⟨y', rfl⟩ := Int.eq_ofNat_of_zero_le c
    obtain ⟨z', rfl⟩ := Int.eq_ofNat_of_zero_le e
    rw [hor x' (by omega) y' (by omega) z' (by omega)]
    congr 1
    exact decide_eq_decide.mpr (by omega)
  have good : ∀ q, 0 ≤ q → q < 5 → hb (ma S 17 (ma S 5 i)) q = true → hb (ma S 18 (ma S 5 i)) q = false ∧ ma S 4 i ≠ q := fun q a b c =>
    ⟨hs.il i q hi hi' a b c, fun e => by rw [← e, (hs.no.1 i hi hi').1] at c; exact absurd c (by decide)⟩
  have stepG : ∀ set k, 0 ≤ set → set < 32 → (∀ q, 0 ≤ q → q < 5 → hb set q = true → hb (ma S 18 (ma S 5 i)) q = false ∧ ma S 4 i ≠ q) → ∀ q, 0 ≤ q → q < 5 → hb (askStep S i set k) q = true → hb (ma S 18 (ma S 5 i)) q = false ∧ ma S 4 i ≠ q := by
    intro set k s0 s1 hg q a b c
    unfold askStep at c
    split at c
    next g =>
      simp only [Bool.and_eq_true, decide_eq_true_eq, Bool.not_eq_true'] at g
      have hkr := kept_r (i := i) (p := k) (d := -1) hs.wr
      rcases hkr with e | ⟨e0, e1, e2⟩
      · exact absurd e g.1.1.2
      · have hk := hs.wr.ms e0 e1
        have ck := cK_r e2
        rw [orr _ _ _ s0 s1 (by omega) (by omega) a b, Bool.or_eq_true] at c
        rcases c with c | c
        · exact hg q a b c
        · have c := of_decide_eq_true c
          subst c
          have := hs.no.2.1 _ e0 e1 ck.1 g.1.2
          rw [ck.2.2.1] at this
          exact ⟨g.2, fun z => this z.symm⟩
    next => exact hg q a b c
  have rowG : ∀ j set, 0 ≤ set → set < 32 → (∀ q, 0 ≤ q → q < 5 → hb set q = true → hb (ma S 18 (ma S 5 i)) q = false ∧ ma S 4 i ≠ q) → ∀ q, 0 ≤ q → q < 5 → hb (askRow S i set j) q = true → hb (ma S 18 (ma S 5 i)) q = false ∧ ma S 4 i ≠ q := by
    intro j set s0 s1 hg
    induction j with
    | zero => exact hg
    | succ j ih =>
      have hr := askRow_r (i := i) hs.wr s0 s1 j
      exact stepG _ j hr.1 hr.2 ih
  have allG : ∀ j, ∀ q, 0 ≤ q → q < 5 → hb (askAll S i (ma S 17 (ma S 5 i)) j) q = true → hb (ma S 18 (ma S 5 i)) q = false ∧ ma S 4 i ≠ q := by
    intro j
    induction j with
    | zero => exact good
    | succ j ih =>
      have hr := askAll_r (i := i) hs.wr hv.2.2.2.2.2.2.2.2.2.1.1 hv.2.2.2.2.2.2.2.2.2.1.2 j
      exact rowG 5 _ hr.1 hr.2 ih
  exact allG 5 p hp hp' ha
theorem c_agreedWith {i p : Int} (h : CR sv G S m) (hs : SI t S) (hi : 0 ≤ i) (hi' : i < mf S 3) (hp : 0 ≤ p) (hp' : p < 5) (ho : ma S 4 i ≠ p) (hl1 : hb (ma S 18 (ma S 5 i)) p = false) (hc : ma S 19 (ma S 5 i) = 0) : F_X0_isAgreedWith (am G i) (I p) m = some (.ok (b2i (decide (ma S 25 (8 * p + i) = ma S 5 i) && allTo (agD S i p) 60)), m) := by
  have hm := h.mt i hi hi'
  have hx := hs.wr.mt hi hi'
  have hvx := hs.wr.vs hx.2.1.1 hx.2.1.2
  have hn := hs.wr.nn
  have hcp := hs.wr.cp hp hp' hi (show i < 8 by omega)
  unfold F_X0_isAgreedWith
  simp only [xb_xp, xb_as]
  rw [om_b hm, xb_ok (c_versionThere h hs.wr hs.lo hp hp' hi hi')]
  by_cases e : isHere S p i = true
  · have hv := here_ver hs.wr hp hp' hi hi' e
    have ev : verOf S p i = ma S 25 (8 * p + i) := if_neg ho
    obtain ⟨-, hvs⟩ := vO_v h hp hp' hi hi' (show verOf S p i ≠ -1 by omega)
    have hvv := hs.wr.vs hv.1 hv.2
    rw [if_pos e]
    rw [xb_ok (xif_or (b := decide (¬ ma S 9 (verOf S p i) = ma S 9 (ma S 5 i))) (fun _ => by rw [yv0 hvs, ym2 hm, yv0 hm.now, xp_ap, d_ne (by omega) (by omega) (by omega) (by omega)]))]
    rw [show decide (some (vH G S p i) = none) = false from rfl, Bool.false_or]
    rw [ev] at hvv hv ⊢
    by_cases c : ma S 25 (8 * p + i) = ma S 5 i
    · rw [decide_eq_false (show ¬ ¬ ma S 9 (ma S 25 (8 * p + i)) = ma S 9 (ma S 5 i) by rw [c]; exact fun q => q rfl), if_neg (by decide), decide_eq_true c, Bool.true_and]
      obtain ⟨b, b1, b2⟩ := hm.now.dr
      have cr := cnt_r (hl (ml S 23 (ma S 5 i))) 60
      have hcell : ∀ j : Nat, j < (cnt (hl (ml S 23 (ma S 5 i))) 60).toNat → (xb (xgr 1 2 (some (am G i))) fun v => xb (xgr 5 11 v) fun v => xb (xlen v) fun v17 => xp (decide (I (j : Int) < v17))) m = some (.ok true, m) := fun j hj => by
        rw [ym2 hm, xb_ok (x_gr rfl hm.now.ty b1), xb_ok (dr_len b2), xp_ap, d_lt (by omega) (by omega) (by omega) (by omega), decide_eq_true (by omega)]
      have hday : ∀ j : Nat, j < (cnt (hl (ml S 23 (ma S 5 i))) 60).toNat → 0 ≤ nth (hl (ml S 23 (ma S 5 i))) j 60 ∧ nth (hl (ml S 23 (ma S 5 i))) j 60 < 60 ∧ hl (ml S 23 (ma S 5 i)) (nth (hl (ml S 23 (ma S 5 i))) j 60) = true := fun j hj => nth_ok (by omega) (by omega)
      have hcmp : ∀ j : Nat, j < (cnt (hl (ml S 23 (ma S 5 i))) 60).toNat → ∀ (f : Bool → QX (Int32 ⊕ Int32)), (xb (xgr 1 2 (some (am G i))) fun v => xb (xgr 5 11 v) fun v20 => xb (xai 0 v20 (I (j : Int))) fun day_22 => xb (xo 1 (some (am G i)) fun q => F_X0_answerAsOwn q (I p) (some (vH G S p i)) day_22) fun v27 => xb (xo 1 (some (am G i)) fun q => F_X0_answerAsKnown q (I p) day_22) fun v31 => f (decide (¬ v27 = v31))) m = f (!agD S i p (nth (hl (ml S 23 (ma S 5 i))) j 60)) m := fun j hj f => by
        have hd := hday j hj
        have a1 := answers_r (i := i) (p := p) (d := nth (hl (ml S 23 (ma S 5 i))) j 60) (b := ma S 5 i) (all := true) hs.wr
        have a2 := answers_r (i := i) (p := p) (d := nth (hl (ml S 23 (ma S 5 i))) j 60) (b := ma S 5 i) (all := false) hs.wr
        rw [ym2 hm, xb_ok (x_gr rfl hm.now.ty b1), xb_ok (dr_get b2 (by omega) (by omega)), om_b hm, xb_ok (c_ansOwn h hs.wr hs.rp hi hi' hp hp' hd.1 hd.2.1 e), om_b hm, xb_ok (c_ansKnown h hs.wr hs.rp hi hi' hp hp' hd.1 hd.2.1)]
        have eo : ownOf S p i (nth (hl (ml S 23 (ma S 5 i))) j 60) = answers S i p (nth (hl (ml S 23 (ma S 5 i))) j 60) (ma S 5 i) true := by unfold ownOf; rw [if_neg ho, c]
        unfold agD
        rw [eo, d_ne (by omega) (by omega) (by omega) (by omega), hd.2.2]
        congr 1
        by_cases z : answers S i p (nth (hl (ml S 23 (ma S 5 i))) j 60) (ma S 5 i) true = answers S i p (nth (hl (ml S 23 (ma S 5 i))) j 60) (ma S 5 i) false
        · rw [decide_eq_true z, decide_eq_false (fun q => q z)]; rfl
        · rw [decide_eq_false z, decide_eq_true z]; rfl
      rcases first_bad (fun j => agD S i p (nth (hl (ml S 23 (ma S 5 i))) j 60)) (cnt (hl (ml S 23 (ma S 5 i))) 60).toNat with hall | ⟨j, j1, j2, j3⟩
      · have hA : allTo (agD S i p) 60 = true := (allTo_iff 60).mpr fun k hk => by
          by_cases cd : hl (ml S 23 (ma S 5 i)) k = true
          · have hN := nth_at cd (60 - (k + 1))
            rw [show k + 1 + (60 - (k + 1)) = 60 by omega] at hN
            have crk := cnt_r (hl (ml S 23 (ma S 5 i))) k
            have hlt : cnt (hl (ml S 23 (ma S 5 i))) k < cnt (hl (ml S 23 (ma S 5 i))) 60 := by
              have m1 := cnt_mono (hl (ml S 23 (ma S 5 i))) (k + 1) (60 - (k + 1))
              rw [show k + 1 + (60 - (k + 1)) = 60 by omega] at m1
              have m2 : cnt (hl (ml S 23 (ma S 5 i))) (k + 1) = cnt (hl (ml S 23 (ma S 5 i))) k + (if hl (ml S 23 (ma S 5 i)) k = true then 1 else 0) := rfl
              rw [if_pos cd] at m2; omega
            have := hall (cnt (hl (ml S 23 (ma S 5 i))) k).toNat (by omega)
            rw [show (((cnt (hl (ml S 23 (ma S 5 i))) k).toNat : Nat) : Int) = cnt (hl (ml S 23 (ma S 5 i))) k by omega, hN] at this
            exact this
          · unfold agD; rw [Bool.eq_false_iff.mpr cd]; rfl
        rw [hA]
        refine Eq.trans (xb_ok (xlr_run (fun j => I j) (cnt (hl (ml S 23 (ma S 5 i))) 60).toNat 2000 0 (by omega) (by omega) hcell (fun j hj => ?_) ?_)) rfl
        · refine (hcmp j hj (fun b => if b = true then xb (xz 0) fun v34 => xp (Sum.inl v34) else xp (Sum.inr (I (j : Int) + 1)))).trans ?_
          rw [hall j hj, if_neg (by decide), xp_ap, gl1, I_add]; rfl
        · rw [ym2 hm, xb_ok (x_gr rfl hm.now.ty b1), xb_ok (dr_len b2), xp_ap, d_lt (by omega) (by omega) (by omega) (by omega), decide_eq_false (by omega)]
      · have hd := hday j j1
        have hA : allTo (agD S i p) 60 = false := by
          cases hz : allTo (agD S i p) 60
          · rfl
          · have := (allTo_iff 60).mp hz (nth (hl (ml S 23 (ma S 5 i))) j 60).toNat (by omega)
            rw [show (((nth (hl (ml S 23 (ma S 5 i))) j 60).toNat : Nat) : Int) = nth (hl (ml S 23 (ma S 5 i))) j 60 by omega, j2] at this
            exact absurd this (by decide)
        rw [hA]
        refine Eq.trans (xb_ok (xlr_stop (v := 0) (fun j => I j) j 2000 0 (by omega) (by omega) (fun k hk => hcell k (by omega)) (fun k hk => ?_) ?_)) rfl
        · refine (hcmp k (by omega) (fun b => if b = true then xb (xz 0) fun v34 => xp (Sum.inl v34) else xp (Sum.inr (I (k : Int) + 1)))).trans ?_
          rw [j3 k hk, if_neg (by decide), xp_ap, gl1, I_add]; rfl
        · refine (hcmp j j1 (fun b => if b = true then xb (xz 0) fun v34 => xp (Sum.inl v34) else xp (Sum.inr (I (j : Int) + 1)))).trans ?_
          rw [j2]; rfl
    · have hq := hs.sq.1 p i hp hp' hi hi'
      rw [decide_eq_true (show ¬ ma S 9 (ma S 25 (8 * p + i)) = ma S 9 (ma S 5 i) by omega), if_pos rfl, decide_eq_false c]; rfl
  · have c : ma S 25 (8 * p + i) ≠ ma S 5 i := fun q => e (by
      unfold isHere
      rw [if_neg ho, q]
      exact decide_eq_true ⟨by omega, hc, hl1⟩)
    rw [if_neg e, decide_eq_false c]; rfl
theorem q_agrees {i : Int} (h : CR sv G S m) (hs : SI t S) (il : -2147483648 ≤ i) (ih : i < 2147483648) : OUT sv (F_X6_agrees sv (I i)) m (rs3 (gM S i) true true (b2i (agreesB S i))) S := by
  unfold F_X6_agrees agreesB
  simp only [xb_xp, xb_as]
  by_cases g : gM S i = true
  · have q := gM_d g
    have hm := h.mt i q.1 q.2
    have hx := hs.wr.mt q.1 q.2
    have hvx := hs.wr.vs hx.2.1.1 hx.2.1.2
    by_cases e : ma S 19 (ma S 5 i) = 0
    · obtain ⟨m', ea, sc⟩ := c_askedOf h hs.wr hs.rp q.1 q.2
      refine OUT.s h sc ?_
      have h' := h.sc sc
      have hm' := h'.mt i q.1 q.2
      rw [os_b h.cf, xb_need (c_meetingNumbered h hs.wr il ih), if_pos g, ym2 hm, yv16 hm.now, e, show decide (¬ I 0 = (0 : Int32)) = false from rfl, if_neg (by decide), os_b h.cf, xb_ok ea, rs3_4 g rfl rfl, decide_eq_true rfl, Bool.true_and]
      have hstep : ∀ j : Nat, j < 5 → ∀ (f : Bool → QX (Int32 ⊕ Int32)), (xb (F_X6_isIn (I (asked S i)) (I (j : Int))) fun v => xb (if (decide (¬ v = 0)) = true then xb (xo 1 (some (am G i)) fun q => F_X0_isAgreedWith q (I (j : Int))) fun v => xp (!decide (¬ v = 0)) else xp false) f) m' = f (!agP S i (asked S i) j) m' := fun j hj f => by
        rw [c_isIn, xb_xp, b2ne]
        rw [xb_ok (xif_and (b := !(decide (ma S 25 (8 * j + i) = ma S 5 i) && allTo (agD S i j) 60)) (fun z => by
          have ak := asked_ok hs q.1 q.2 (p := (j : Int)) (by omega) (by omega) z
          rw [om_b hm', xb_ok (c_agreedWith h' hs q.1 q.2 (by omega) (by omega) ak.2 ak.1 e), xp_ap, b2ne]))]
        unfold agP
        congr 1
        cases hb (asked S i) j <;> rfl
      rcases first_bad (fun j => agP S i (asked S i) j) 5 with hall | ⟨j, j1, j2, j3⟩
      · rw [(allTo_iff 5).mpr hall]
        refine Eq.trans (xb_ok (xlr_run (fun j => I j) 5 2000 0 (by omega) (by omega) (fun j hj => ?_) (fun j hj => ?_) ?_)) rfl
        · rw [xp_ap, gl5, d_lt (by omega) (by omega) (by omega) (by omega), decide_eq_true (by omega)]
        · refine (hstep j hj _).trans ?_
          rw [hall j hj, if_neg (by decide), xp_ap, gl1, I_add]; rfl
        · rw [xp_ap, gl5, d_lt (by omega) (by omega) (by omega) (by omega), decide_eq_false (by omega)]
      · have hA : allTo (agP S i (asked S i)) 5 = false := by
          cases hz : allTo (agP S i (asked S i)) 5
          · rfl
          · have := (allTo_iff 5).mp hz j j1
            rw [j2] at this; exact absurd this (by decide)
        rw [hA]
        refine Eq.trans (xb_ok (xlr_stop (v := 0) (fun j => I j) j 2000 0 (by omega) (by omega) (fun k hk => ?_) (fun k hk => ?_) ?_)) rfl
        · rw [xp_ap, gl5, d_lt (by omega) (by omega) (by omega) (by omega), decide_eq_true (by omega)]
        · refine (hstep k (by omega) _).trans ?_
          rw [j3 k hk, if_neg (by decide), xp_ap, gl1, I_add]; rfl
        · refine (hstep j j1 _).trans ?_
          rw [j2]; rfl
    · refine OUT.q h ?_
      rw [os_b h.cf, xb_need (c_meetingNumbered h hs.wr il ih), if_pos g, ym2 hm, yv16 hm.now, gl0, d_ne (by omega) (by omega) (by omega) (by omega), decide_eq_true e, if_pos rfl, rs3_4 g rfl rfl, decide_eq_false e]; rfl
  · refine OUT.q h ?_
    rw [os_b h.cf, xb_need (c_meetingNumbered h hs.wr il ih), if_neg g, rs3_1 g]
theorem lastTo_none {c : Int → Bool} : ∀ n : Nat, (∀ k : Nat, k < n → c k = false) → lastTo c n = -1 := by
  intro n
  induction n with
  | zero => intro _; rfl
  | succ n ih =>
    intro h
    show (if c n = true then (n : Int) else lastTo c n) = -1
    rw [h n (by omega), if_neg (by decide)]; exact ih fun k hk => h k (by omega)
theorem lastTo_one {c : Int → Bool} {k0 : Nat} : ∀ n : Nat, k0 < n → c k0 = true → (∀ k : Nat, k < n → c k = true → k = k0) → lastTo c n = k0 := by
  intro n
  induction n with
  | zero => intro h; exact absurd h (Nat.not_lt_zero _)
  | succ n ih =>
    intro h0 h1 h2
    show (if c n = true then (n : Int) else lastTo c n) = k0
    by_cases e : c n = true
    · rw [if_pos e, h2 n (by omega) e]
    · rw [if_neg e]
      exact ih (by
        by_cases q : k0 = n
        · subst q; exact absurd h1 e
        · omega) h1 (fun k hk => h2 k (by omega))
theorem q_changeAt {p a place : Int} (h : CR sv G S m) (hs : SI t S) (pl : -2147483648 ≤ p) (ph : p < 2147483648) (al : -2147483648 ≤ a) (ah : a < 2147483648) (placel : -2147483648 ≤ place) (placeh : place < 2147483648) : OUT sv (F_X6_changeAt sv (I p) (I a) (I place)) m (if (gP p && gMk S p a && gFl S p a) = true then rs3 (decide (0 ≤ place ∧ place < cnt (abC S p a) (mf S 3).toNat)) true true (I (lastTo (chgC S p a place) (mf S 3).toNat)) else rs3 (gP p) (gMk S p a) (gFl S p a) (I 0)) S := by
  refine OUT.q h ?_
  have hn := hs.wr.nn
  have hA := c_askedFrom h hs pl ph al ah
  unfold F_X6_changeAt
  simp only [xb_xp, xb_as]
  rw [os_b h.cf]
  by_cases g : (gP p && gMk S p a && gFl S p a) = true
  · rw [if_pos g]
    simp only [Bool.and_eq_true] at g
    have q := gFl_p g.2
    rw [rs3_4 g.1.1 g.1.2 g.2] at hA
    have cr := cnt_r (abC S p a) (mf S 3).toNat
    rw [xb_ok hA, op_b h.cf q.1.1 q.1.2, xb_ok (c_above h hs q.1.1 q.1.2 q.2.1 ah), xb_need (c_needPlace placel placeh (by omega) (by omega))]
    by_cases g2 : decide (0 ≤ place ∧ place < cnt (abC S p a) (mf S 3).toNat) = true
    · rw [if_pos g2, rs3_4 g2 rfl rfl]
      have q2 := of_decide_eq_true g2
      let C : Nat → Bool := fun k => decide (a < ma S 26 (8 * p + k)) && decide (cnt (btC S p a (ma S 26 (8 * p + k))) 8 = place)
      have hC : ∀ k : Nat, k < (mf S 3).toNat → C k = chgC S p a place k := fun k hk => by
        show (_ && decide (cnt (btC S p a (ma S 26 (8 * p + k))) 8 = place)) = _
        rw [between_eq hs q.1.1 q.1.2 q.2.1]; rfl
      have hCo : ∀ k : Nat, (mf S 3).toNat ≤ k → k < 8 → C k = false := fun k h1 h2 => by
        show (decide (a < ma S 26 (8 * p + k)) && _) = false
        rw [ent0 hs q.1.1 q.1.2 (by omega) (by omega), decide_eq_false (by omega)]; rfl
      have uni : ∀ k l : Nat, k < 8 → l < 8 → C k = true → C l = true → k = l := fun k l hk hl' ck cl => by
        have ck := Bool.and_eq_true_iff.mp ck
        have cl := Bool.and_eq_true_iff.mp cl
        have a1 := of_decide_eq_true ck.1
        have a2 := of_decide_eq_true ck.2
        have b1 := of_decide_eq_true cl.1
        have b2 := of_decide_eq_true cl.2
        have lt : ∀ u v : Int, 0 ≤ u → u < 8 → a < ma S 26 (8 * p + u) → ma S 26 (8 * p + u) < v → cnt (btC S p a (ma S 26 (8 * p + u))) 8 < cnt (btC S p a v) 8 := fun u v x y z w =>
          (cnt_lt 8 (fun k2 _ _ hk2 => by
            unfold btC at hk2 ⊢
            rw [Bool.and_eq_true, decide_eq_true_eq, decide_eq_true_eq] at hk2 ⊢
            omega)).2 u x (by omega) (by unfold btC; rw [decide_eq_false (show ¬ ma S 26 (8 * p + u) < ma S 26 (8 * p + u) by omega), Bool.and_false]) (by unfold btC; rw [decide_eq_true z, decide_eq_true w]; rfl)
        by_cases e : (k : Int) = l
        · omega
        · exfalso
          rcases Int.lt_or_lt_of_ne (fun z => e (by
            by_cases e3 : (k : Int) = l
            · exact e3
            · have := hs.de p k l q.1.1 q.1.2 (by omega) (by omega) (by omega) (by omega) e3 z
              omega)) with z | z
          · have := lt k _ (by omega) (by omega) a1 z; omega
          · have := lt l _ (by omega) (by omega) b1 z; omega
      have hread : ∀ (j : Nat) (s : Int), j < 8 → (xb (xgr 3 2 (some (pA sv p))) fun v => xb (xai 0 v (I (j : Int))) fun entry_20 => xb (if decide (I a < entry_20) = true then xb (xo 3 (some (pA sv p)) fun q => F_X2_entriesBetween q (I a) entry_20) fun v26 => xp (decide (v26 = I place)) else xp false) fun v => xb (if v = true then xp (I (j : Int)) else xp (I s)) fun s31 => xp (s31, I (j : Int) + 1)) m = some (.ok (I (if C j = true then (j : Int) else s), I ((j + 1 : Nat) : Int)), m) := fun j s hj => by
        have hc := hs.wr.cp q.1.1 q.1.2 (i := (j : Int)) (by omega) (by omega)
        have hps := hs.wr.ps q.1.1 q.1.2
        have cb := cnt_r (btC S p a (ma S 26 (8 * p + j))) 8
        rw [yp2 h.cf q.1.1 q.1.2, ype h q.1.1 q.1.2 (by omega) (by omega), d_lt (by omega) (by omega) (by omega) (by omega)]
        rw [xb_ok (xif_and (b := decide (cnt (btC S p a (ma S 26 (8 * p + j))) 8 = place)) (fun _ => by rw [op_b h.cf q.1.1 q.1.2, xb_ok (c_between h hs.wr q.1.1 q.1.2 al ah (by omega) (by omega)), xp_ap, d_eq (by omega) (by omega) (by omega) (by omega)]))]
        rw [show (decide (a < ma S 26 (8 * p + j)) && decide (cnt (btC S p a (ma S 26 (8 * p + j))) 8 = place)) = C j from rfl, gl1, I_add]
        by_cases c : C j = true
        · rw [if_pos c, if_pos c, xb_xp, xp_ap]; rfl
        · rw [if_neg c, if_neg c, xb_xp, xp_ap]; rfl
      rcases first_bad (fun j => !C j) 8 with hall | ⟨j, j1, j2, j3⟩
      · have hz : ∀ k : Nat, k < 8 → C k = false := fun k hk => by have := hall k hk; rwa [Bool.not_eq_true'] at this
        rw [lastTo_none _ (fun k hk => by rw [← hC k hk]; exact hz k (by omega))]
        refine Eq.trans (xb_ok (xl_run (fun j => (I (-1), I j)) (fun _ => m) 8 2000 (fun j hj => ?_) (fun j hj => ?_) ?_ (by decide))) rfl
        · rw [gl8, d_lt (by omega) (by omega) (by omega) (by omega), decide_eq_true (by omega)]; rfl
        · refine (hread j (-1) hj).trans ?_
          rw [hz j hj, if_neg (by decide)]
        · rw [gl8, d_lt (by omega) (by omega) (by omega) (by omega), decide_eq_false (by omega)]; rfl
      · have cj : C j = true := by rwa [Bool.not_eq_false'] at j2
        have hz : ∀ k : Nat, k < j → C k = false := fun k hk => by have := j3 k hk; rwa [Bool.not_eq_true'] at this
        have jm : j < (mf S 3).toNat := by
          rcases Nat.lt_or_ge j (mf S 3).toNat with z | z
          · exact z
          · rw [hCo j z j1] at cj; exact absurd cj (by decide)
        rw [lastTo_one _ jm (by rw [← hC j jm]; exact cj) (fun k hk ck => uni k j (by omega) j1 (by rw [hC k hk]; exact ck) cj)]
        refine Eq.trans (xb_ok (xl_run (fun k => (I (if k ≤ j then -1 else (j : Int)), I k)) (fun _ => m) (j + 1) 2000 (fun k hk => ?_) (fun k hk => ?_) ?_ (by omega))) ?_
        · rw [show (if k ≤ j then (-1 : Int) else (j : Int)) = -1 from if_pos (by omega), gl8, d_lt (by omega) (by omega) (by omega) (by omega), decide_eq_true (by omega)]; rfl
        · rw [if_pos (by omega)]
          refine (hread k (-1) (by omega)).trans ?_
          by_cases e : k = j
          · subst e
            rw [if_pos cj, if_neg (by omega)]
          · rw [hz k (by omega), if_neg (by decide), if_pos (by omega)]
        · rw [show (if j + 1 ≤ j then (-1 : Int) else (j : Int)) = j from if_neg (by omega), gl8]
          by_cases e8 : ((j + 1 : Nat) : Int) < 8
          · rw [d_lt (by omega) (by omega) (by omega) (by omega), decide_eq_true e8, if_pos rfl, xp_ap, glm1, d_eq (by omega) (by omega) (by omega) (by omega), decide_eq_false (by omega)]
          · rw [d_lt (by omega) (by omega) (by omega) (by omega), decide_eq_false e8]; rfl
        · show xp _ m = _
          rw [if_neg (by omega), xp_ap]
    · rw [if_neg g2, rs3_1 g2]
  · rw [if_neg g]
    cases g1 : gP p
    · rw [g1] at hA; exact xb_er hA
    · cases g2 : gMk S p a
      · rw [g1, g2] at hA; exact xb_er hA
      · cases g3 : gFl S p a
        · rw [g1, g2, g3] at hA; exact xb_er hA
        · rw [g1, g2, g3] at g; exact absurd rfl g
end C9
