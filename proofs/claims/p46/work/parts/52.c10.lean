def IV (S : MS) (people b e : Int) : Prop := ∃ p i d : Int, ((0 ≤ p ∧ p < 5) ∧ hb people p = true) ∧ (0 ≤ i ∧ i < mf S 3) ∧ (0 ≤ d ∧ d < 60) ∧ hl (datOf S p i) d = true ∧ rankFor S p i d = 2 ∧ b = begOf S (verOf S p i) d ∧ e = begOf S (verOf S p i) d + ma S 13 (verOf S p i)
theorem bsy_iv {t : Int} {S : MS} {people x : Int} (h : WR t S) : bsy S people (x + 48) = true ↔ ∃ b e, IV S people b e ∧ b ≤ x ∧ x < e := by
  have hn := h.nn
  unfold bsy
  rw [anyTo_iff]
  constructor
  · rintro ⟨k, k1, k2⟩
    unfold ppl at k2
    simp only [Bool.and_eq_true] at k2
    obtain ⟨⟨k3, k4⟩, k5⟩ := k2
    rw [anyTo_iff] at k5
    obtain ⟨d, d1, d2⟩ := k5
    unfold dayC at d2
    simp only [Bool.and_eq_true, decide_eq_true_eq] at d2
    have k4 : (k : Int) % 8 < mf S 3 := of_decide_eq_true k4
    exact ⟨_, _, ⟨(k : Int) / 8, (k : Int) % 8, d, ⟨⟨by omega, by omega⟩, k3⟩, ⟨by omega, k4⟩, ⟨by omega, by omega⟩, d2.1.1, d2.1.2, rfl, rfl⟩, by omega, by omega⟩
  · rintro ⟨b, e, ⟨p, i, d, ⟨⟨p0, p1⟩, p2⟩, ⟨i0, i1⟩, ⟨d0, d1⟩, q1, q2, rfl, rfl⟩, h1, h2⟩
    refine ⟨(8 * p + i).toNat, by omega, ?_⟩
    have ek : (((8 * p + i).toNat : Nat) : Int) = 8 * p + i := by omega
    unfold ppl
    rw [ek, show (8 * p + i) / 8 = p by omega, show (8 * p + i) % 8 = i by omega, p2, decide_eq_true i1, Bool.true_and, Bool.true_and, anyTo_iff]
    refine ⟨d.toNat, by omega, ?_⟩
    rw [show ((d.toNat : Nat) : Int) = d by omega]
    unfold dayC
    rw [q1, decide_eq_true q2, decide_eq_true (by omega)]; rfl
theorem IV_r {t : Int} {S : MS} {people b e : Int} (h : WR t S) (v : IV S people b e) : -13 ≤ b ∧ b < e ∧ e ≤ 1474 := by
  obtain ⟨p, i, d, ⟨⟨p0, p1⟩, p2⟩, ⟨i0, i1⟩, ⟨d0, d1⟩, q1, q2, rfl, rfl⟩ := v
  have hh := dat_here d0 d1 q1
  have hv := here_ver h p0 p1 i0 i1 hh
  have hvs := h.vs hv.1 hv.2
  have hb := begOf_r (d := d) h hv.1 hv.2 d0 d1
  omega
def ltg (S : MS) (p i h l : Int) (d s : Int) : Int := if begOf S (verOf S p i) d < h + l ∧ s < begOf S (verOf S p i) d + ma S 13 (verOf S p i) ∧ rankFor S p i d = 2 then begOf S (verOf S p i) d + ma S 13 (verOf S p i) else s
def latD (S : MS) (p i h l : Int) : Int := fd (hl (datOf S p i)) (ltg S p i h l) h 60
def latM (S : MS) (p h l s : Int) : Nat → Int
  | 0 => s
  | i + 1 => if latM S p h l s i < latD S p i h l then latD S p i h l else latM S p h l s i
def latP (S : MS) (people h l : Int) : Nat → Int
  | 0 => h
  | p + 1 => if hb people p = true then latM S p h l (latP S people h l p) (mf S 3).toNat else latP S people h l p
def LT (S : MS) (people h l s : Int) : Prop := h ≤ s ∧ (s = h ∨ ∃ b, IV S people b s ∧ b < h + l)
theorem latD_ok {t : Int} {S : MS} {people p i h l : Int} (hw : WR t S) (hp : 0 ≤ p) (hp' : p < 5) (hb : hb people p = true) (hi : 0 ≤ i) (hi' : i < mf S 3) : LT S people h l (latD S p i h l) ∧ ∀ d : Int, 0 ≤ d → d < 60 → hl (datOf S p i) d = true → rankFor S p i d = 2 → begOf S (verOf S p i) d < h + l → begOf S (verOf S p i) d + ma S 13 (verOf S p i) ≤ latD S p i h l := by
  unfold latD
  have H : ∀ n : Nat, n ≤ 60 → LT S people h l (fd (hl (datOf S p i)) (ltg S p i h l) h n) ∧ ∀ d : Int, 0 ≤ d → d < n → hl (datOf S p i) d = true → rankFor S p i d = 2 → begOf S (verOf S p i) d < h + l → begOf S (verOf S p i) d + ma S 13 (verOf S p i) ≤ fd (hl (datOf S p i)) (ltg S p i h l) h n := by
    intro n
    induction n with
    | zero => exact fun _ => ⟨⟨Int.le_refl _, Or.inl rfl⟩, fun d a b => absurd b (by omega)⟩
    | succ n ih =>
      intro hn
      obtain ⟨⟨a1, a2⟩, a3⟩ := ih (by omega)
      have es : fd (hl (datOf S p i)) (ltg S p i h l) h (n + 1) = if hl (datOf S p i) n = true then ltg S p i h l n (fd (hl (datOf S p i)) (ltg S p i h l) h n) else fd (hl (datOf S p i)) (ltg S p i h l) h n := rfl
      rw [es]
      generalize fd (hl (datOf S p i)) (ltg S p i h l) h n = s at a1 a2 a3 ⊢
      by_cases c : hl (datOf S p i) n = true
      · rw [if_pos c]
        unfold ltg
        by_cases g : begOf S (verOf S p i) n < h + l ∧ s < begOf S (verOf S p i) n + ma S 13 (verOf S p i) ∧ rankFor S p i n = 2
        · rw [if_pos g]
          refine ⟨⟨by omega, Or.inr ⟨begOf S (verOf S p i) n, ⟨p, i, n, ⟨⟨hp, hp'⟩, hb⟩, ⟨hi, hi'⟩, ⟨by omega, by omega⟩, c, g.2.2, rfl, rfl⟩, g.1⟩⟩, fun d x y z w u => ?_⟩
          by_cases e : d = n
          · subst e; omega
          · have := a3 d x (by omega) z w u; omega
        · rw [if_neg g]
          refine ⟨⟨a1, a2⟩, fun d x y z w u => ?_⟩
          by_cases e : d = n
          · subst e; omega
          · exact a3 d x (by omega) z w u
      · rw [if_neg c]
        refine ⟨⟨a1, a2⟩, fun d x y z w u => ?_⟩
        by_cases e : d = n
        · subst e; exact absurd z c
        · exact a3 d x (by omega) z w u
  exact H 60 (Nat.le_refl _)
theorem latM_ok {t : Int} {S : MS} {people p h l s : Int} (hw : WR t S) (hp : 0 ≤ p) (hp' : p < 5) (hb : hb people p = true) (hs : LT S people h l s) : ∀ n : Nat, n ≤ (mf S 3).toNat → LT S people h l (latM S p h l s n) ∧ s ≤ latM S p h l s n ∧ ∀ i d : Int, 0 ≤ i → i < n → 0 ≤ d → d < 60 → hl (datOf S p i) d = true → rankFor S p i d = 2 → begOf S (verOf S p i) d < h + l → begOf S (verOf S p i) d + ma S 13 (verOf S p i) ≤ latM S p h l s n := by
  intro n
  induction n with
  | zero => exact fun _ => ⟨hs, Int.le_refl _, fun i d a b => absurd b (by omega)⟩
  | succ n ih =>
    intro hn
    obtain ⟨a1, a2, a3⟩ := ih (by omega)
    obtain ⟨b1, b2⟩ := latD_ok (i := (n : Int)) (h := h) (l := l) hw hp hp' hb (by omega) (by have := hw.nn; omega)
    have es : latM S p h l s (n + 1) = if latM S p h l s n < latD S p n h l then latD S p n h l else latM S p h l s n := rfl
    rw [es]
    generalize latM S p h l s n = u at a1 a2 a3 ⊢
    by_cases c : u < latD S p n h l
    · rw [if_pos c]
      refine ⟨b1, by omega, fun i d x y z w q r k => ?_⟩
      by_cases e : i = n
      · subst e; exact b2 d z w q r k
      · have := a3 i d x (by omega) z w q r k; omega
    · rw [if_neg c]
      refine ⟨a1, a2, fun i d x y z w q r k => ?_⟩
      by_cases e : i = n
      · subst e; have := b2 d z w q r k; omega
      · exact a3 i d x (by omega) z w q r k
theorem latP_ok {t : Int} {S : MS} {people h l : Int} (hw : WR t S) : ∀ n : Nat, n ≤ 5 → LT S people h l (latP S people h l n) ∧ ∀ p i d : Int, 0 ≤ p → p < n → hb people p = true → 0 ≤ i → i < mf S 3 → 0 ≤ d → d < 60 → hl (datOf S p i) d = true → rankFor S p i d = 2 → begOf S (verOf S p i) d < h + l → begOf S (verOf S p i) d + ma S 13 (verOf S p i) ≤ latP S people h l n := by
  intro n
  induction n with
  | zero => exact fun _ => ⟨⟨Int.le_refl _, Or.inl rfl⟩, fun p i d a b => absurd b (by omega)⟩
  | succ n ih =>
    intro hn
    obtain ⟨a1, a2⟩ := ih (by omega)
    have es : latP S people h l (n + 1) = if hb people n = true then latM S n h l (latP S people h l n) (mf S 3).toNat else latP S people h l n := rfl
    rw [es]
    generalize latP S people h l n = u at a1 a2 ⊢
    by_cases c : hb people n = true
    · rw [if_pos c]
      obtain ⟨b1, b2, b3⟩ := latM_ok (p := (n : Int)) hw (by omega) (by omega) c a1 (mf S 3).toNat (Nat.le_refl _)
      have hm := hw.nn
      refine ⟨b1, fun p i d x y z i0 i1 d0 d1 q r k => ?_⟩
      by_cases e : p = n
      · subst e; exact b3 i d i0 (by omega) d0 d1 q r k
      · have := a2 p i d x (by omega) z i0 i1 d0 d1 q r k; omega
    · rw [if_neg c]
      refine ⟨a1, fun p i d x y z i0 i1 d0 d1 q r k => ?_⟩
      by_cases e : p = n
      · subst e; exact absurd z c
      · exact a2 p i d x (by omega) z i0 i1 d0 d1 q r k
theorem lat_iv {t : Int} {S : MS} {people h l b e : Int} (hw : WR t S) (v : IV S people b e) (hb : b < h + l) : e ≤ latP S people h l 5 := by
  obtain ⟨p, i, d, ⟨⟨p0, p1⟩, p2⟩, ⟨i0, i1⟩, ⟨d0, d1⟩, q1, q2, rfl, rfl⟩ := v
  exact (latP_ok hw 5 (Nat.le_refl _)).2 p i d p0 (by omega) p2 i0 i1 d0 d1 q1 q2 hb
section C10
variable {sv : Nat} {G : GM} {S : MS} {m : QM} {t : Int}
theorem c_behindIn {people p i w l : Int} (h : CR sv G S m) (hs : SI t S) (hi : 0 ≤ i) (hi' : i < mf S 3) (hp : 0 ≤ p) (hp' : p < 5) (hb : hb people p = true) (h4 : -3000 ≤ w) (h5 : w ≤ 3000) (l0 : 1 ≤ l) (l1 : l ≤ 48) : F_X6_behindBusyIn sv (some (am G i)) (I p) (I w) (I l) m = some (.ok (I (latD S p i w l)), m) := by
  have hm := h.mt i hi hi'
  have hn := hs.wr.nn
  unfold F_X6_behindBusyIn
  simp only [xb_xp, xb_as]
  rw [om_b hm, xb_ok (c_versionThere h hs.wr hs.lo hp hp' hi hi')]
  by_cases e : isHere S p i = true
  · have hv := here_ver hs.wr hp hp' hi hi' e
    obtain ⟨-, hvs⟩ := vO_v h hp hp' hi hi' (show verOf S p i ≠ -1 by omega)
    have hvv := hs.wr.vs hv.1 hv.2
    obtain ⟨b, b1, b2⟩ := hvs.dr
    have ed : datOf S p i = ml S 23 (verOf S p i) := if_pos e
    unfold latD
    rw [if_pos e, ed, fd_fj _ _ _ 60 60 (Nat.le_refl _)]
    have cr := cnt_r (hl (ml S 23 (verOf S p i))) 60
    have fr : ∀ j, w ≤ fj (fun j => nth (hl (ml S 23 (verOf S p i))) j 60) (ltg S p i w l) w j ∧ fj (fun j => nth (hl (ml S 23 (verOf S p i))) j 60) (ltg S p i w l) w j ≤ 3000 ∨ cnt (hl (ml S 23 (verOf S p i))) 60 < j := by
      intro j
      induction j with
      | zero => exact Or.inl ⟨Int.le_refl _, h5⟩
      | succ j ih =>
        by_cases q : cnt (hl (ml S 23 (verOf S p i))) 60 < ((j + 1 : Nat) : Int)
        · exact Or.inr q
        · left
          have ih : w ≤ fj (fun j => nth (hl (ml S 23 (verOf S p i))) j 60) (ltg S p i w l) w j ∧ fj (fun j => nth (hl (ml S 23 (verOf S p i))) j 60) (ltg S p i w l) w j ≤ 3000 := by omega
          have hnth := nth_ok (c := hl (ml S 23 (verOf S p i))) (n := 60) (j := j) (by omega) (by omega)
          have hbr := begOf_r hs.wr hv.1 hv.2 hnth.1 hnth.2.1
          show w ≤ ltg S p i w l (nth (hl (ml S 23 (verOf S p i))) j 60) _ ∧ ltg S p i w l (nth (hl (ml S 23 (verOf S p i))) j 60) _ ≤ 3000
          generalize fj (fun j => nth (hl (ml S 23 (verOf S p i))) j 60) (ltg S p i w l) w j = s at ih ⊢
          unfold ltg
          split <;> omega
    refine Eq.trans (xb_ok (xl_run (fun j => (I (fj (fun j => nth (hl (ml S 23 (verOf S p i))) j 60) (ltg S p i w l) w j), I j)) (fun _ => m) (cnt (hl (ml S 23 (verOf S p i))) 60).toNat 2000 (fun j hj => ?_) (fun j hj => ?_) ?_ (by omega))) rfl
    · rw [xif_and (b := true) (fun _ => by rw [xb_ok (x_gr rfl hvs.ty b1), xb_ok (dr_len b2), xp_ap, d_lt (by omega) (by omega) (by omega) (by omega), decide_eq_true (by omega)])]; rfl
    · have frj := fr j
      have es : fj (fun j => nth (hl (ml S 23 (verOf S p i))) j 60) (ltg S p i w l) w (j + 1) = ltg S p i w l (nth (hl (ml S 23 (verOf S p i))) j 60) (fj (fun j => nth (hl (ml S 23 (verOf S p i))) j 60) (ltg S p i w l) w j) := rfl
      rw [es]
      generalize fj (fun j => nth (hl (ml S 23 (verOf S p i))) j 60) (ltg S p i w l) w j = s at frj ⊢
      have hnth := nth_ok (c := hl (ml S 23 (verOf S p i))) (n := 60) (j := j) (by omega) (by omega)
      rw [xb_ok (x_gr rfl hvs.ty b1), xb_ok (dr_get b2 (by omega) (by omega))]
      generalize nth (hl (ml S 23 (verOf S p i))) j 60 = d at hnth ⊢
      have hbr := begOf_r hs.wr hv.1 hv.2 hnth.1 hnth.2.1
      have hrr := rank_r S p i d
      rw [ov_b hvs, xb_ok (c_beginOf h hs.wr hvs hv.1 hv.2 hnth.1 hnth.2.1), yv4 hvs, I_add, I_add, d_lt (by omega) (by omega) (by omega) (by omega), d_lt (by omega) (by omega) (by omega) (by omega), ifx, xb_xp]
      rw [xb_ok (xif_and (b := decide (rankFor S p i d = 2)) (fun _ => by rw [om_b hm, xb_ok (c_rankBy h hs.wr hs.rp hi hi' hp hp' hnth.1 hnth.2.1 e), xp_ap, gl2, d_eq (by omega) (by omega) (by omega) (by omega)]))]
      unfold ltg
      by_cases c : begOf S (verOf S p i) d < w + l ∧ s < begOf S (verOf S p i) d + ma S 13 (verOf S p i) ∧ rankFor S p i d = 2
      · rw [if_pos c, decide_eq_true c.1, decide_eq_true c.2.1, decide_eq_true c.2.2, if_pos (by decide), xb_xp, xp_ap, gl1, I_add]; rfl
      · rw [if_neg c, if_neg (by
          rw [Bool.and_eq_true, Bool.and_eq_true, decide_eq_true_eq, decide_eq_true_eq, decide_eq_true_eq]
          exact fun q => c ⟨q.1.1, q.1.2, q.2⟩), xb_xp, xp_ap, gl1, I_add]; rfl
    · rw [xif_and (b := false) (fun _ => by rw [xb_ok (x_gr rfl hvs.ty b1), xb_ok (dr_len b2), xp_ap, d_lt (by omega) (by omega) (by omega) (by omega), decide_eq_false (by omega)]), Bool.and_false]
  · have ed : datOf S p i = 0 := if_neg e
    unfold latD
    rw [if_neg e, ed, fd_none 60 (fun d a b => hl0 a (by omega))]
    exact xb_ok (xl_run (fun j => (I w, I j)) (fun _ => m) 0 2000 (fun j hj => absurd hj (Nat.not_lt_zero _)) (fun j hj => absurd hj (Nat.not_lt_zero _)) rfl (by decide))
theorem LT_r {people h l s : Int} (hw : WR t S) (v : LT S people h l s) : h ≤ s ∧ s ≤ (if h < 1474 then 1474 else h) := by
  obtain ⟨v1, v2⟩ := v
  refine ⟨v1, ?_⟩
  rcases v2 with e | ⟨b, v3, -⟩
  · split <;> omega
  · have := IV_r hw v3; split <;> omega
theorem c_behind {people w l : Int} (h : CR sv G S m) (hs : SI t S) (h4 : -3000 ≤ w) (h5 : w ≤ 3000) (l0 : 1 ≤ l) (l1 : l ≤ 48) : F_X6_behindBusy sv (I people) (I w) (I l) m = some (.ok (I (latP S people w l 5)), m) := by
  have hn := hs.wr.nn
  unfold F_X6_behindBusy
  simp only [xb_xp, xb_as]
  refine Eq.trans (xb_ok (xl_run (fun j => (I (latP S people w l j), I j)) (fun _ => m) 5 2000 (fun j hj => ?_) (fun j hj => ?_) ?_ (by decide))) rfl
  · rw [xp_ap, gl5, d_lt (by omega) (by omega) (by omega) (by omega), decide_eq_true (by omega)]
  · have hl1 := latP_ok (people := people) (h := w) (l := l) hs.wr j (by omega)
    have es : latP S people w l (j + 1) = if hb people j = true then latM S j w l (latP S people w l j) (mf S 3).toNat else latP S people w l j := rfl
    rw [es]
    generalize latP S people w l j = u at hl1 ⊢
    by_cases c : hb people j = true
    · rw [if_pos c]
      refine Eq.trans (xb_ok (xl_run (fun k => (I (latM S j w l u k), I k)) (fun _ => m) (mf S 3).toNat 2000 (fun k hk => ?_) (fun k hk => ?_) ?_ (by omega))) ?_
      · rw [c_isIn, xb_xp, b2ne, c, if_pos rfl, ys4 h, xp_ap, d_lt (by omega) (by omega) (by omega) (by omega), decide_eq_true (by omega)]
      · have k1 := LT_r hs.wr (latM_ok (p := (j : Int)) hs.wr (by omega) (by omega) c hl1.1 k (by omega)).1
        have k2 := LT_r hs.wr (latD_ok (p := (j : Int)) (i := (k : Int)) (h := w) (l := l) hs.wr (by omega) (by omega) c (by omega) (by omega)).1
        have e2 : latM S j w l u (k + 1) = if latM S j w l u k < latD S j k w l then latD S j k w l else latM S j w l u k := rfl
        rw [e2]
        generalize latM S j w l u k = z at k1 ⊢
        have k3 : (if w < 1474 then (1474 : Int) else w) ≤ 3000 := by split <;> omega
        rw [ys2 h.cf, ym h (by omega) (by omega) (by omega), os_b h.cf, xb_ok (c_behindIn h hs (by omega) (by omega) (by omega) (by omega) c h4 h5 l0 l1), imax (by omega) (by omega) (by omega) (by omega), xp_ap, gl1, I_add]; rfl
      · rw [c_isIn, xb_xp, b2ne, c, if_pos rfl, ys4 h, xp_ap, d_lt (by omega) (by omega) (by omega) (by omega), decide_eq_false (by omega)]
      · show xp _ m = _
        rw [xp_ap, gl1, I_add]; rfl
    · rw [if_neg c]
      refine Eq.trans (xb_ok (xl_run (fun k => (I u, I k)) (fun _ => m) 0 2000 (fun k hk => absurd hk (Nat.not_lt_zero _)) (fun k hk => absurd hk (Nat.not_lt_zero _)) ?_ (by decide))) ?_
      · rw [c_isIn, xb_xp, b2ne, Bool.eq_false_iff.mpr c, if_neg (by decide), xp_ap]
      · show xp _ m = _
        rw [xp_ap, gl1, I_add]; rfl
  · rw [xp_ap, gl5, d_lt (by omega) (by omega) (by omega) (by omega), decide_eq_false (by omega)]
def hopH (S : MS) (people f l : Int) : Nat → Int
  | 0 => f
  | j + 1 => latP S people (hopH S people f l j) l 5
theorem hop_r {people f l : Int} (hw : WR t S) (h0 : -48 ≤ f) (h1 : f ≤ 1500) : ∀ j, f ≤ hopH S people f l j ∧ hopH S people f l j ≤ 1500 := by
  intro j
  induction j with
  | zero => exact ⟨Int.le_refl _, h1⟩
  | succ j ih =>
    have := LT_r hw (latP_ok (people := people) (h := hopH S people f l j) (l := l) hw 5 (Nat.le_refl _)).1
    show f ≤ latP S people (hopH S people f l j) l 5 ∧ latP S people (hopH S people f l j) l 5 ≤ 1500
    have k3 : (if hopH S people f l j < 1474 then (1474 : Int) else hopH S people f l j) ≤ 1500 := by split <;> omega
    omega
theorem hop_min {people f l : Int} (hw : WR t S) (l0 : 1 ≤ l) : ∀ j w : Int, 0 ≤ j → f ≤ w → w < hopH S people f l j.toNat → ∃ x, w ≤ x ∧ x < w + l ∧ bsy S people (x + 48) = true := by
  have H : ∀ (j : Nat) (w : Int), f ≤ w → w < hopH S people f l j → ∃ x, w ≤ x ∧ x < w + l ∧ bsy S people (x + 48) = true := by
    intro j
    induction j with
    | zero => exact fun w a b => absurd b (by show ¬ w < f; omega)
    | succ j ih =>
      intro w a b
      by_cases c : w < hopH S people f l j
      · exact ih w a c
      · have hL := (latP_ok (people := people) (h := hopH S people f l j) (l := l) hw 5 (Nat.le_refl _)).1
        have b' : w < latP S people (hopH S people f l j) l 5 := b
        rcases hL.2 with e | ⟨bb, v, vb⟩
        · omega
        · have vr := IV_r hw v
          by_cases q : bb ≤ w
          · exact ⟨w, Int.le_refl _, by omega, (bsy_iv hw).mpr ⟨bb, _, v, q, b'⟩⟩
          · exact ⟨bb, by omega, by omega, (bsy_iv hw).mpr ⟨bb, _, v, Int.le_refl _, vr.2.1⟩⟩
  exact fun j w _ a b => H j.toNat w a b
theorem q_firstFree {people f l : Int} (h : CR sv G S m) (hs : SI t S) (peoplel : -2147483648 ≤ people) (peopleh : people < 2147483648) (fl : -2147483648 ≤ f) (fh : f < 2147483648) (ll : -2147483648 ≤ l) (lh : l < 2147483648) : if gF people f l = true then ∃ r, OUT sv (F_X6_firstFree sv (I people) (I f) (I l)) m (.ok (I r)) S ∧ isFF (bsy S people) f l r else OUT sv (F_X6_firstFree sv (I people) (I f) (I l)) m (.error 2) S := by
  unfold F_X6_firstFree
  simp only [xb_xp, xb_as]
  by_cases g : gF people f l = true
  · rw [if_pos g]
    have q := g
    unfold gF at q
    simp only [Bool.and_eq_true, decide_eq_true_eq] at q
    have hr := hop_r (people := people) (f := f) (l := l) hs.wr q.1.2.1 q.1.2.2
    have hst : ∀ j, hopH S people f l j ≤ hopH S people f l (j + 1) := fun j => (latP_ok (people := people) (h := hopH S people f l j) (l := l) hs.wr 5 (Nat.le_refl _)).1.1
    rcases first_bad (fun j => decide (hopH S people f l j < hopH S people f l (j + 1))) 1648 with hall | ⟨N, n1, n2, n3⟩
    · exfalso
      have grow : ∀ j : Nat, j ≤ 1648 → f + j ≤ hopH S people f l j := by
        intro j
        induction j with
        | zero => intro _; show f + 0 ≤ f; omega
        | succ j ih =>
          intro hj
          have := of_decide_eq_true (hall j (by omega))
          have := ih (by omega)
          omega
      have := grow 1648 (Nat.le_refl _)
      have := hr 1648
      omega
    · have n2 : ¬ hopH S people f l N < hopH S people f l (N + 1) := of_decide_eq_false n2
      have n4 : hopH S people f l (N + 1) = hopH S people f l N := by have := hst N; omega
      refine ⟨hopH S people f l N, OUT.q h ?_, ?_, ?_, ?_⟩
      · rw [xb_need (c_needSearch peoplel peopleh fl fh ll lh), if_pos g, os_b h.cf, xb_ok (c_behind h hs (by omega) (by omega) q.2.1 q.2.2)]
        refine Eq.trans (xb_ok (xl_run (fun j => (I (hopH S people f l j), I (hopH S people f l (j + 1)), I (-48 + j))) (fun _ => m) N 2000 (fun j hj => ?_) (fun j hj => ?_) ?_ (by omega))) rfl
        · have h1 := hr j
          have h2 := hr (j + 1)
          have h3 := of_decide_eq_true (n3 j hj)
          rw [show (1600 : Int32) = I 1600 by decide, d_lt (by omega) (by omega) (by omega) (by omega), decide_eq_true (by omega), if_pos rfl, xp_ap, d_lt (by omega) (by omega) (by omega) (by omega), decide_eq_true h3]
        · have h1 := hr (j + 1)
          rw [os_b h.cf, xb_ok (c_behind h hs (by omega) (by omega) q.2.1 q.2.2), xp_ap, gl1, I_add, show (-48 + (j : Int) + 1) = -48 + ((j + 1 : Nat) : Int) by omega]; rfl
        · have h1 := hr N
          have h2 := hr (N + 1)
          rw [show (1600 : Int32) = I 1600 by decide, xif_and (b := false) (fun _ => by rw [xp_ap, d_lt (by omega) (by omega) (by omega) (by omega), decide_eq_false n2]), Bool.and_false]
      · exact (hr N).1
      · intro x x0 x1
        cases eb : bsy S people (x + 48)
        · rfl
        · exfalso
          obtain ⟨b, e, v, v1, v2⟩ := (bsy_iv hs.wr).mp eb
          have := lat_iv (h := hopH S people f l N) (l := l) hs.wr v (by omega)
          have : latP S people (hopH S people f l N) l 5 = hopH S people f l N := n4
          omega
      · intro w w0 w1
        exact hop_min hs.wr q.2.1 N w (by omega) w0 (by rw [show ((N : Int)).toNat = N by omega]; exact w1)
  · rw [if_neg g]
    refine OUT.q h ?_
    rw [xb_need (c_needSearch peoplel peopleh fl fh ll lh), if_neg g]
end C10
