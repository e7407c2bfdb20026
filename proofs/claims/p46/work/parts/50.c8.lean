def fd {σ : Type} (c : Int → Bool) (g : Int → σ → σ) (s0 : σ) : Nat → σ
  | 0 => s0
  | j + 1 => if c j = true then g j (fd c g s0 j) else fd c g s0 j
def fj {σ : Type} (h : Int → Int) (g : Int → σ → σ) (s0 : σ) : Nat → σ
  | 0 => s0
  | j + 1 => g (h j) (fj h g s0 j)
theorem cnt_mono (c : Int → Bool) (j : Nat) : ∀ a : Nat, cnt c j ≤ cnt c (j + a) := by
  intro a
  induction a with
  | zero => exact Int.le_refl _
  | succ a ah =>
    have f1 : cnt c (j + (a + 1)) = cnt c (j + a) + (if c ((j + a : Nat) : Int) = true then 1 else 0) := rfl
    rw [f1]; split <;> omega
theorem nth_at {c : Int → Bool} {n : Nat} (hc : c n = true) : ∀ a : Nat, nth c (cnt c n) (n + 1 + a) = n := by
  intro a
  induction a with
  | zero =>
    show (if (c n && decide (cnt c n = cnt c n)) = true then (n : Int) else nth c (cnt c n) n) = n
    rw [hc, decide_eq_true rfl]; rfl
  | succ a ih =>
    show (if (c ((n + 1 + a : Nat) : Int) && decide (cnt c (n + 1 + a) = cnt c n)) = true then ((n + 1 + a : Nat) : Int) else nth c (cnt c n) (n + 1 + a)) = n
    have h1 := cnt_mono c (n + 1) a
    have h2 : cnt c (n + 1) = cnt c n + (if c n = true then 1 else 0) := rfl
    rw [if_pos hc] at h2
    rw [decide_eq_false (by omega), Bool.and_false, if_neg (by decide)]; exact ih
theorem fd_fj {σ : Type} (c : Int → Bool) (g : Int → σ → σ) (s0 : σ) (N : Nat) : ∀ n : Nat, n ≤ N → fd c g s0 n = fj (fun j => nth c j N) g s0 (cnt c n).toNat := by
  intro n
  induction n with
  | zero => intro _; rfl
  | succ n ih =>
    intro h
    have h2 : cnt c (n + 1) = cnt c n + (if c n = true then 1 else 0) := rfl
    have hr := cnt_r c n
    show (if c n = true then g n (fd c g s0 n) else fd c g s0 n) = _
    by_cases e : c n = true
    · rw [if_pos e] at h2 ⊢
      have hN := nth_at e (N - (n + 1))
      rw [show n + 1 + (N - (n + 1)) = N by omega] at hN
      rw [h2, show (cnt c n + 1).toNat = (cnt c n).toNat + 1 by omega, ih (by omega)]
      show _ = g (nth c (((cnt c n).toNat : Nat) : Int) N) _
      rw [show (((cnt c n).toNat : Nat) : Int) = cnt c n by omega, hN]
    · rw [if_neg e] at h2 ⊢
      rw [h2, Int.add_zero, ih (by omega)]
theorem fd_none {σ : Type} {c : Int → Bool} {g : Int → σ → σ} {s0 : σ} : ∀ n : Nat, (∀ d : Int, 0 ≤ d → d < n → c d = false) → fd c g s0 n = s0 := by
  intro n
  induction n with
  | zero => intro _; rfl
  | succ n ih =>
    intro h
    show (if c n = true then g n (fd c g s0 n) else fd c g s0 n) = _
    rw [h n (by omega) (by omega), if_neg (by decide)]
    exact ih (fun d a b => h d a (by omega))
theorem nth_ok {c : Int → Bool} {n : Nat} {j : Int} (h0 : 0 ≤ j) (h1 : j < cnt c n) : 0 ≤ nth c j n ∧ nth c j n < n ∧ c (nth c j n) = true := by
  obtain ⟨N, a1, a2, a3, a4, -⟩ := nth_first (c := c) (place := j) n h0 h1
  rw [a4]; exact ⟨by omega, by omega, a2⟩
theorem hl0 {d : Int} (h0 : 0 ≤ d) (h1 : d < 60) : hl 0 d = false := by
  obtain ⟨a, rfl⟩ := Int.eq_ofNat_of_zero_le h0
  exact (by decide +kernel : ∀ a, a < 60 → hl 0 (a : Nat) = false) a (by omega)
theorem imax {a b : Int} (ha : -2147483648 ≤ a) (ha' : a < 2147483648) (hb : -2147483648 ≤ b) (hb' : b < 2147483648) : (if I a < I b then I b else I a) = I (if a < b then b else a) := by
  by_cases q : a < b
  · rw [if_pos ((I_lt ha ha' hb hb').mpr q), if_pos q]
  · rw [if_neg (fun z => q ((I_lt ha ha' hb hb').mp z)), if_neg q]
def rkg (S : MS) (p i w : Int) (d s : Int) : Int := if s < (if takesH S p i d w = true then rankFor S p i d else 0) then (if takesH S p i d w = true then rankFor S p i d else 0) else s
theorem rkD_fd (S : MS) (p i w m0 : Int) : ∀ j, rkD S p i w m0 j = fd (hl (datOf S p i)) (rkg S p i w) m0 j := by
  intro j
  induction j with
  | zero => rfl
  | succ j ih =>
    show (if hl (datOf S p i) j = true then (if rkD S p i w m0 j < _ then _ else rkD S p i w m0 j) else rkD S p i w m0 j) = (if hl (datOf S p i) j = true then rkg S p i w j (fd (hl (datOf S p i)) (rkg S p i w) m0 j) else fd (hl (datOf S p i)) (rkg S p i w) m0 j)
    rw [ih]; rfl
theorem rkg_r {S : MS} {p i w d s : Int} (h0 : 0 ≤ s) (h1 : s ≤ 2) : 0 ≤ rkg S p i w d s ∧ rkg S p i w d s ≤ 2 := by
  have := rank_r S p i d
  unfold rkg
  split
  · split <;> omega
  · omega
theorem rkD_max {S : MS} {p i w m0 : Int} (h0 : 0 ≤ m0) : ∀ j, rkD S p i w m0 j = if m0 < rkD S p i w 0 j then rkD S p i w 0 j else m0 := by
  intro j
  induction j with
  | zero => show m0 = if m0 < 0 then 0 else m0; rw [if_neg (by omega)]
  | succ j ih =>
    have hr := rkD_r (S := S) (p := p) (i := i) (w := w) (m := 0) (by omega) (by omega) j
    have k0 := rank_r S p i j
    show (if hl (datOf S p i) j = true then (if rkD S p i w m0 j < (if takesH S p i j w = true then rankFor S p i j else 0) then (if takesH S p i j w = true then rankFor S p i j else 0) else rkD S p i w m0 j) else rkD S p i w m0 j) = (if m0 < (if hl (datOf S p i) j = true then (if rkD S p i w 0 j < (if takesH S p i j w = true then rankFor S p i j else 0) then (if takesH S p i j w = true then rankFor S p i j else 0) else rkD S p i w 0 j) else rkD S p i w 0 j) then (if hl (datOf S p i) j = true then (if rkD S p i w 0 j < (if takesH S p i j w = true then rankFor S p i j else 0) then (if takesH S p i j w = true then rankFor S p i j else 0) else rkD S p i w 0 j) else rkD S p i w 0 j) else m0)
    rw [ih]
    have k1 : 0 ≤ (if takesH S p i j w = true then rankFor S p i j else 0) := by split <;> omega
    generalize (if takesH S p i j w = true then rankFor S p i j else 0) = r at k1 ⊢
    generalize rkD S p i w 0 j = u at hr ⊢
    by_cases c : hl (datOf S p i) j = true
    · simp only [if_pos c]
      by_cases e1 : m0 < u
      · simp only [if_pos e1]
        by_cases e2 : u < r
        · simp only [if_pos e2]; rw [if_pos (by omega)]
        · simp only [if_neg e2]; rw [if_pos e1]
      · simp only [if_neg e1]
        by_cases e2 : u < r
        · simp only [if_pos e2]
        · simp only [if_neg e2]; rw [if_neg (by omega), if_neg e1]
    · simp only [if_neg c]
section C8
variable {sv : Nat} {G : GM} {S : MS} {m : QM} {t : Int}
theorem c_rankIn {i p w : Int} (h : CR sv G S m) (hs : SI t S) (hi : 0 ≤ i) (hi' : i < mf S 3) (hp : 0 ≤ p) (hp' : p < 5) (h4 : -3000 ≤ w) (h5 : w ≤ 3000) : F_X6_rankIn sv (some (am G i)) (I p) (I w) m = some (.ok (I (rkD S p i w 0 60)), m) := by
  have hm := h.mt i hi hi'
  have hn := hs.wr.nn
  unfold F_X6_rankIn
  simp only [xb_xp, xb_as]
  rw [om_b hm, xb_ok (c_versionThere h hs.wr hs.lo hp hp' hi hi'), rkD_fd]
  by_cases e : isHere S p i = true
  · have hv := here_ver hs.wr hp hp' hi hi' e
    obtain ⟨-, hvs⟩ := vO_v h hp hp' hi hi' (show verOf S p i ≠ -1 by omega)
    have hvv := hs.wr.vs hv.1 hv.2
    obtain ⟨b, b1, b2⟩ := hvs.dr
    have ed : datOf S p i = ml S 23 (verOf S p i) := if_pos e
    rw [if_pos e, ed, fd_fj _ _ _ 60 60 (Nat.le_refl _)]
    have cr := cnt_r (hl (ml S 23 (verOf S p i))) 60
    have fr : ∀ j, 0 ≤ fj (fun j => nth (hl (ml S 23 (verOf S p i))) j 60) (rkg S p i w) 0 j ∧ fj (fun j => nth (hl (ml S 23 (verOf S p i))) j 60) (rkg S p i w) 0 j ≤ 2 := by
      intro j
      induction j with
      | zero => exact ⟨Int.le_refl _, (by decide : (0 : Int) ≤ 2)⟩
      | succ j ih => exact rkg_r ih.1 ih.2
    refine Eq.trans (xb_ok (xl_run (fun j => (I (fj (fun j => nth (hl (ml S 23 (verOf S p i))) j 60) (rkg S p i w) 0 j), I j)) (fun _ => m) (cnt (hl (ml S 23 (verOf S p i))) 60).toNat 2000 (fun j hj => ?_) (fun j hj => ?_) ?_ (by omega))) rfl
    · rw [xif_and (b := true) (fun _ => by rw [xb_ok (x_gr rfl hvs.ty b1), xb_ok (dr_len b2), xp_ap, d_lt (by omega) (by omega) (by omega) (by omega), decide_eq_true (by omega)])]; rfl
    · have frj := fr j
      have es : fj (fun j => nth (hl (ml S 23 (verOf S p i))) j 60) (rkg S p i w) 0 (j + 1) = rkg S p i w (nth (hl (ml S 23 (verOf S p i))) j 60) (fj (fun j => nth (hl (ml S 23 (verOf S p i))) j 60) (rkg S p i w) 0 j) := rfl
      rw [es]
      generalize fj (fun j => nth (hl (ml S 23 (verOf S p i))) j 60) (rkg S p i w) 0 j = s at frj ⊢
      have hnth := nth_ok (c := hl (ml S 23 (verOf S p i))) (n := 60) (j := j) (by omega) (by omega)
      rw [xb_ok (x_gr rfl hvs.ty b1), xb_ok (dr_get b2 (by omega) (by omega))]
      generalize nth (hl (ml S 23 (verOf S p i))) j 60 = d at hnth ⊢
      have hbr := begOf_r hs.wr hv.1 hv.2 hnth.1 hnth.2.1
      have hrr := rank_r S p i d
      rw [ov_b hvs, xb_ok (c_beginOf h hs.wr hvs hv.1 hv.2 hnth.1 hnth.2.1), d_le (by omega) (by omega) (by omega) (by omega)]
      rw [xb_ok (xif_and (b := decide (w < begOf S (verOf S p i) d + ma S 13 (verOf S p i))) (fun _ => by rw [yv4 hvs, I_add, xp_ap, d_lt (by omega) (by omega) (by omega) (by omega)]))]
      rw [show (decide (begOf S (verOf S p i) d ≤ w) && decide (w < begOf S (verOf S p i) d + ma S 13 (verOf S p i))) = takesH S p i d w from by unfold takesH; rw [← Bool.decide_and]]
      unfold rkg
      by_cases c : takesH S p i d w = true
      · rw [if_pos c, if_pos c, xb_as, om_b hm, xb_ok (c_rankBy h hs.wr hs.rp hi hi' hp hp' hnth.1 hnth.2.1 e), imax (by omega) (by omega) (by omega) (by omega), xb_xp, xp_ap, gl1, I_add]; rfl
      · rw [if_neg c, if_neg c, xb_xp, xp_ap, if_neg (by omega), gl1, I_add]; rfl
    · rw [xif_and (b := false) (fun _ => by rw [xb_ok (x_gr rfl hvs.ty b1), xb_ok (dr_len b2), xp_ap, d_lt (by omega) (by omega) (by omega) (by omega), decide_eq_false (by omega)]), Bool.and_false]
  · have ed : datOf S p i = 0 := if_neg e
    rw [if_neg e, ed, fd_none 60 (fun d a b => hl0 a (by omega))]
    exact xb_ok (xl_run (fun j => (I 0, I j)) (fun _ => m) 0 2000 (fun j hj => absurd hj (Nat.not_lt_zero _)) (fun j hj => absurd hj (Nat.not_lt_zero _)) rfl (by decide))
theorem q_rank {p w : Int} (h : CR sv G S m) (hs : SI t S) (pl : -2147483648 ≤ p) (ph : p < 2147483648) (wl : -2147483648 ≤ w) (wh : w < 2147483648) : OUT sv (F_X6_rank sv (I p) (I w)) m (rs3 (gP p) (gW w) true (I (rkM S p w (mf S 3).toNat))) S := by
  refine OUT.q h ?_
  have hn := hs.wr.nn
  unfold F_X6_rank
  simp only [xb_xp, xb_as]
  rw [xb_need (c_needPerson pl ph)]
  by_cases g : gP p = true
  · have q := gP_d g
    rw [if_pos g, show (-48 : Int32) = I (-48) by decide, show (1600 : Int32) = I 1600 by decide, xb_need (c_needRange wl wh (by decide) (by decide) (by decide) (by decide)), show gIn w (-48) 1600 = gW w from rfl]
    by_cases g2 : gW w = true
    · have q2 : -48 ≤ w ∧ w ≤ 1600 := of_decide_eq_true g2
      rw [if_pos g2, rs3_4 g g2 rfl]
      refine Eq.trans (xb_ok (xl_run (fun j => (I (rkM S p w j), I j)) (fun _ => m) (mf S 3).toNat 2000 (fun j hj => ?_) (fun j hj => ?_) ?_ (by omega))) rfl
      · rw [ys4 h, xp_ap, d_lt (by omega) (by omega) (by omega) (by omega), decide_eq_true (by omega)]
      · have hr := rkM_r (S := S) (p := p) (w := w) j
        have hr2 := rkD_r (S := S) (p := p) (i := (j : Int)) (w := w) (m := 0) (by omega) (by omega) 60
        have es : rkM S p w (j + 1) = rkD S p j w (rkM S p w j) 60 := rfl
        rw [es, rkD_max hr.1]
        generalize rkM S p w j = s at hr ⊢
        rw [ys2 h.cf, ym h (by omega) (by omega) (by omega), os_b h.cf, xb_ok (c_rankIn h hs (by omega) (by omega) q.1 q.2 (by omega) (by omega)), imax (by omega) (by omega) (by omega) (by omega), xp_ap, gl1, I_add]; rfl
      · rw [ys4 h, xp_ap, d_lt (by omega) (by omega) (by omega) (by omega), decide_eq_false (by omega)]
    · rw [if_neg g2, rs3_2 g g2]
  · rw [if_neg g, rs3_1 g]
theorem q_mark {p : Int} (h : CR sv G S m) (pl : -2147483648 ≤ p) (ph : p < 2147483648) : OUT sv (F_X6_mark sv (I p)) m (rs3 (gP p) true true (I (ma S 27 p))) S := by
  refine OUT.q h ?_
  unfold F_X6_mark
  simp only [xb_xp, xb_as]
  rw [xb_need (c_needPerson pl ph)]
  by_cases g : gP p = true
  · have q := gP_d g
    rw [if_pos g, rs3_4 g rfl rfl, ys1 h.cf, yp h.cf q.1 q.2, x_gi rfl (h.cf.pt p q.1 q.2) (h.p0 p q.1 q.2)]
  · rw [if_neg g, rs3_1 g]
theorem cnt_ext {c c' : Int → Bool} : ∀ n : Nat, (∀ k : Int, 0 ≤ k → k < n → c k = c' k) → cnt c n = cnt c' n := by
  intro n
  induction n with
  | zero => intro _; rfl
  | succ n ih =>
    intro h
    show cnt c n + (if c n = true then 1 else 0) = cnt c' n + (if c' n = true then 1 else 0)
    rw [ih (fun k a b => h k a (by omega)), h n (by omega) (by omega)]
theorem cnt_tail {c : Int → Bool} {n : Nat} : ∀ a : Nat, (∀ k : Int, n ≤ k → k < n + a → c k = false) → cnt c (n + a) = cnt c n := by
  intro a
  induction a with
  | zero => intro _; rfl
  | succ a ih =>
    intro h
    show cnt c (n + a) + (if c ((n + a : Nat) : Int) = true then 1 else 0) = cnt c n
    rw [ih (fun k x y => h k x (by omega)), h _ (by omega) (by omega), if_neg (by decide), Int.add_zero]
theorem cnt_lt {c c' : Int → Bool} : ∀ n : Nat, (∀ k : Int, 0 ≤ k → k < n → c k = true → c' k = true) → cnt c n ≤ cnt c' n ∧ ∀ k : Int, 0 ≤ k → k < n → c k = false → c' k = true → cnt c n < cnt c' n := by
  intro n
  induction n with
  | zero => exact fun _ => ⟨Int.le_refl _, fun k a b => absurd b (by omega)⟩
  | succ n ih =>
    intro h
    obtain ⟨i1, i2⟩ := ih (fun k a b => h k a (by omega))
    have f1 : cnt c (n + 1) = cnt c n + (if c n = true then 1 else 0) := rfl
    have f2 : cnt c' (n + 1) = cnt c' n + (if c' n = true then 1 else 0) := rfl
    have hn := h n (by omega) (by omega)
    have step : (if c n = true then (1 : Int) else 0) ≤ (if c' n = true then 1 else 0) := by
      by_cases e : c n = true
      · rw [if_pos e, if_pos (hn e)]; exact Int.le_refl _
      · rw [if_neg e]; split <;> omega
    rw [f1, f2]
    refine ⟨by omega, fun k a b x y => ?_⟩
    by_cases e : k = n
    · subst e
      rw [x, y, if_neg (by decide), if_pos rfl]; omega
    · have := i2 k a (by omega) x y
      omega
def btC (S : MS) (p a b : Int) (k : Int) : Bool := decide (a < ma S 26 (8 * p + k)) && decide (ma S 26 (8 * p + k) < b)
theorem c_between {p a b : Int} (h : CR sv G S m) (hw : WR t S) (hp : 0 ≤ p) (hp' : p < 5) (al : -2147483648 ≤ a) (ah : a < 2147483648) (bl : -2147483648 ≤ b) (bh : b < 2147483648) : F_X2_entriesBetween (pA sv p) (I a) (I b) m = some (.ok (I (cnt (btC S p a b) 8)), m) := by
  have hn := hw.nn
  have hps := hw.ps hp hp'
  unfold F_X2_entriesBetween
  simp only [xb_xp, xb_as]
  refine Eq.trans (xb_ok (xl_run (fun j => (I (cnt (btC S p a b) j), I j)) (fun _ => m) 8 2000 (fun j hj => ?_) (fun j hj => ?_) ?_ (by decide))) rfl
  · rw [xp_ap, gl8, d_lt (by omega) (by omega) (by omega) (by omega), decide_eq_true (by omega)]
  · have hc := hw.cp hp hp' (i := (j : Int)) (by omega) (by omega)
    have es : cnt (btC S p a b) (j + 1) = cnt (btC S p a b) j + (if btC S p a b j = true then 1 else 0) := rfl
    rw [es]
    generalize cnt (btC S p a b) j = n
    rw [yp2 h.cf hp hp', ype h hp hp' (by omega) (by omega), d_lt (by omega) (by omega) (by omega) (by omega)]
    rw [xb_ok (xif_and (b := decide (ma S 26 (8 * p + j) < b)) (fun _ => by rw [yp2 h.cf hp hp', ype h hp hp' (by omega) (by omega), xp_ap, d_lt (by omega) (by omega) (by omega) (by omega)]))]
    rw [show (decide (a < ma S 26 (8 * p + j)) && decide (ma S 26 (8 * p + j) < b)) = btC S p a b j from rfl, gl1]
    by_cases c : btC S p a b j = true
    · rw [if_pos c, if_pos c, xb_xp, xp_ap, I_add, I_add]; rfl
    · rw [if_neg c, if_neg c, xb_xp, xp_ap, I_add, Int.add_zero]; rfl
  · rw [xp_ap, gl8, d_lt (by omega) (by omega) (by omega) (by omega), decide_eq_false (by omega)]
theorem ent0 {p k : Int} (hs : SI t S) (hp : 0 ≤ p) (hp' : p < 5) (h0 : mf S 3 ≤ k) (h1 : k < 8) : ma S 26 (8 * p + k) = 0 := ((hs.fr.2.1 k h0 h1).2 p hp hp').2
theorem between_eq {p a b : Int} (hs : SI t S) (hp : 0 ≤ p) (hp' : p < 5) (ha : 0 ≤ a) : cnt (btC S p a b) 8 = cnt (btC S p a b) (mf S 3).toNat := by
  have hn := hs.wr.nn
  have := cnt_tail (c := btC S p a b) (n := (mf S 3).toNat) (8 - (mf S 3).toNat) (fun k x y => by
    unfold btC
    rw [ent0 hs hp hp' (by omega) (by omega), decide_eq_false (by omega)]; rfl)
  rw [show (mf S 3).toNat + (8 - (mf S 3).toNat) = 8 by omega] at this
  exact this
theorem c_above {p a : Int} (h : CR sv G S m) (hs : SI t S) (hp : 0 ≤ p) (hp' : p < 5) (ha : 0 ≤ a) (ah : a < 2147483648) : F_X2_entriesAbove (pA sv p) (I a) m = some (.ok (I (cnt (abC S p a) (mf S 3).toNat)), m) := by
  have hn := hs.wr.nn
  have hps := hs.wr.ps hp hp'
  unfold F_X2_entriesAbove
  simp only [xb_xp, xb_as]
  rw [yp0 h hp hp', gl1, I_add, op h.cf hp hp', c_between h hs.wr hp hp' (by omega) ah (by omega) (by omega), between_eq hs hp hp' ha]
  rw [cnt_ext (c' := abC S p a) (mf S 3).toNat (fun k x y => by
    have hc := hs.wr.cp hp hp' (i := k) x (by omega)
    unfold btC abC
    rw [decide_eq_true (show ma S 26 (8 * p + k) < ma S 27 p + 1 by omega), Bool.and_true])]
theorem c_askedFrom {p a : Int} (h : CR sv G S m) (hs : SI t S) (pl : -2147483648 ≤ p) (ph : p < 2147483648) (al : -2147483648 ≤ a) (ah : a < 2147483648) : F_X6_personAskedFrom sv (I p) (I a) m = some (rs3 (gP p) (gMk S p a) (gFl S p a) (some (pA sv p)), m) := by
  unfold F_X6_personAskedFrom
  simp only [xb_xp, xb_as]
  rw [xb_need (c_needPerson pl ph)]
  by_cases g : gP p = true
  · have q := gP_d g
    have hps := hs.wr.ps q.1 q.2
    have hn := hs.wr.nn
    have e1 : gMk S p a = gIn a 0 (ma S 27 p) := by unfold gMk gIn; rw [g]; rfl
    rw [if_pos g, ys1 h.cf, yp h.cf q.1 q.2, yp0 h q.1 q.2, gl0, xb_need (c_needRange al ah (by omega) (by omega) (by omega) (by omega)), ← e1]
    by_cases g2 : gMk S p a = true
    · have e2 : gFl S p a = decide (ma S 28 p ≤ a) := by unfold gFl; rw [g2]; rfl
      rw [if_pos g2, yp1 h q.1 q.2, d_le (by omega) (by omega) (by omega) (by omega), ← e2, xb_need (c_needState _ _)]
      by_cases g3 : gFl S p a = true
      · rw [if_pos g3, rs3_4 g g2 g3, xp_ap]
      · rw [if_neg g3, rs3_3 g g2 g3]
    · rw [if_neg g2, rs3_2 g g2]
  · rw [if_neg g, rs3_1 g]
theorem rs3_bind {α β : Type} {x : QX α} {f : α → QX β} {a b c : Bool} {v : α} (h : x m = some (rs3 a b c v, m)) {w : β} (hf : (a && b && c) = true → f v m = some (.ok w, m)) : xb x f m = some (rs3 a b c w, m) := by
  cases a
  · exact xb_er h
  · cases b
    · exact xb_er h
    · cases c
      · exact xb_er h
      · exact (xb_ok h).trans (hf rfl)
theorem q_changes {p a : Int} (h : CR sv G S m) (hs : SI t S) (pl : -2147483648 ≤ p) (ph : p < 2147483648) (al : -2147483648 ≤ a) (ah : a < 2147483648) : OUT sv (F_X6_changes sv (I p) (I a)) m (rs3 (gP p) (gMk S p a) (gFl S p a) (I (cnt (abC S p a) (mf S 3).toNat))) S := by
  refine OUT.q h ?_
  unfold F_X6_changes
  simp only [xb_xp, xb_as]
  rw [os_b h.cf]
  refine rs3_bind (c_askedFrom h hs pl ph al ah) (fun g => ?_)
  simp only [Bool.and_eq_true] at g
  have q := gFl_p g.2
  rw [op h.cf q.1.1 q.1.2]
  exact c_above h hs q.1.1 q.1.2 q.2.1 ah
end C8
