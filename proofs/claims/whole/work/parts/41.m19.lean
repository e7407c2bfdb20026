/-! the first free hour, found -/
/-- from r on none is busy for so long, and none earlier would do -/
def isFF (B : Int → Bool) (from_ hours r : Int) : Prop := from_ ≤ r ∧ (∀ x, r ≤ x → x < r + hours → B (x + 48) = false) ∧ ∀ w, from_ ≤ w → w < r → ∃ x, w ≤ x ∧ x < w + hours ∧ B (x + 48) = true
theorem isFF_one {B : Int → Bool} {f h r r' : Int} (a : isFF B f h r) (b : isFF B f h r') : r = r' := by
  obtain ⟨a1, a2, a3⟩ := a
  obtain ⟨b1, b2, b3⟩ := b
  rcases Int.lt_trichotomy r r' with q | q | q
  · obtain ⟨x, x1, x2, x3⟩ := b3 r a1 q
    rw [a2 x x1 x2] at x3; exact absurd x3 (by decide)
  · exact q
  · obtain ⟨x, x1, x2, x3⟩ := a3 r' b1 q
    rw [b2 x x1 x2] at x3; exact absurd x3 (by decide)
def scanR (B : Int → Bool) (f : Int) : Nat → Int × Int
  | 0 => (0, f)
  | j + 1 => if B (f + 48 + j) = true then (0, f + j + 1) else ((scanR B f j).1 + 1, (scanR B f j).2)
theorem scan_step (B : Int → Bool) (f : Int) (j : Nat) : scanR B f (j + 1) = if B (f + 48 + j) = true then (0, f + j + 1) else ((scanR B f j).1 + 1, (scanR B f j).2) := rfl
theorem scan_inv (B : Int → Bool) (f : Int) : ∀ j : Nat, (scanR B f j).1 = f + j - (scanR B f j).2 ∧ f ≤ (scanR B f j).2 ∧ (scanR B f j).2 ≤ f + j ∧ ∀ x, (scanR B f j).2 ≤ x → x < f + j → B (x + 48) = false := by
  intro j
  induction j with
  | zero => exact ⟨show (0 : Int) = f + 0 - f by omega, Int.le_refl _, show f ≤ f + 0 by omega, fun x (h1 : f ≤ x) (h2 : x < f + ((0 : Nat) : Int)) => by omega⟩
  | succ j ih =>
    obtain ⟨i1, i2, i3, i4⟩ := ih
    unfold scanR
    by_cases c : B (f + 48 + j) = true
    · rw [if_pos c]
      refine ⟨by simp only; omega, by simp only; omega, by simp only; omega, fun x h1 h2 => ?_⟩
      simp only at h1
      omega
    · rw [if_neg c]
      refine ⟨by simp only; omega, i2, by simp only; omega, fun x h1 h2 => ?_⟩
      by_cases e : x = f + j
      · rw [e, show f + (j : Int) + 48 = f + 48 + j by omega]; exact Bool.eq_false_iff.mpr c
      · exact i4 x h1 (by omega)
theorem scan_hi {B : Int → Bool} {f M : Int} (hB : ∀ x, M ≤ x → B (x + 48) = false) (hf : f ≤ M) : ∀ j : Nat, (scanR B f j).2 ≤ M := by
  intro j
  induction j with
  | zero => exact hf
  | succ j ih =>
    unfold scanR
    by_cases c : B (f + 48 + j) = true
    · rw [if_pos c]
      rcases Int.lt_or_le (f + j) M with q | q
      · simp only; omega
      · have := hB (f + j) q
        rw [show f + (j : Int) + 48 = f + 48 + j by omega] at this
        rw [this] at c; exact absurd c (by decide)
    · rw [if_neg c]; exact ih
theorem least_nat {P : Nat → Prop} (hd : ∀ n, P n ∨ ¬ P n) : ∀ n, P n → ∃ N, N ≤ n ∧ P N ∧ ∀ j, j < N → ¬ P j := by
  intro n
  induction n with
  | zero => intro h; exact ⟨0, Nat.le_refl _, h, fun j hj => absurd hj (Nat.not_lt_zero _)⟩
  | succ n ih =>
    intro h
    by_cases c : ∃ m, m ≤ n ∧ P m
    · obtain ⟨m, h1, h2⟩ := c
      have : ∀ k, k ≤ n → P k → ∃ N, N ≤ k ∧ P N ∧ ∀ j, j < N → ¬ P j := by
        intro k
        induction k with
        | zero => intro _ h; exact ⟨0, Nat.le_refl _, h, fun j hj => absurd hj (Nat.not_lt_zero _)⟩
        | succ k ihk =>
          intro hk hp
          by_cases d : ∃ m, m ≤ k ∧ P m
          · rcases hd k with e | e
            · obtain ⟨N, a, b, c⟩ := ihk (by omega) e
              exact ⟨N, by omega, b, c⟩
            · obtain ⟨m, m1, m2⟩ := d
              have : ∀ q, q ≤ k → P q → ∃ N, N ≤ q ∧ P N ∧ ∀ j, j < N → ¬ P j := by
                intro q
                refine Nat.strongRecOn q (fun q ihq hq hpq => ?_)
                by_cases z : ∃ r, r < q ∧ P r
                · obtain ⟨r, r1, r2⟩ := z
                  obtain ⟨N, a, b, c⟩ := ihq r r1 (by omega) r2
                  exact ⟨N, by omega, b, c⟩
                · exact ⟨q, Nat.le_refl _, hpq, fun j hj hpj => z ⟨j, hj, hpj⟩⟩
              obtain ⟨N, a, b, c⟩ := this m m1 m2
              exact ⟨N, by omega, b, c⟩
          · exact ⟨k + 1, Nat.le_refl _, hp, fun j hj hpj => d ⟨j, by omega, hpj⟩⟩
      obtain ⟨N, a, b, c⟩ := this m h1 h2
      exact ⟨N, by omega, b, c⟩
    · exact ⟨n + 1, Nat.le_refl _, h, fun j hj hpj => c ⟨j, by omega, hpj⟩⟩
theorem scan_min {B : Int → Bool} {f h : Int} (h0 : 1 ≤ h) : ∀ j : Nat, (∀ k, k < j → (scanR B f k).1 < h) → ∀ w, f ≤ w → w < (scanR B f j).2 → ∃ x, w ≤ x ∧ x < w + h ∧ B (x + 48) = true := by
  intro j
  induction j with
  | zero => intro _ w (h1 : f ≤ w) (h2 : w < f); omega
  | succ j ih =>
    intro hk w h1 h2
    have iv := scan_inv B f j
    have ihj := ih (fun k hk' => hk k (by omega)) w h1
    unfold scanR at h2
    by_cases c : B (f + 48 + j) = true
    · rw [if_pos c] at h2
      simp only at h2
      by_cases d : w < (scanR B f j).2
      · exact ihj d
      · have := hk j (by omega)
        exact ⟨f + j, by omega, by omega, by rw [show f + (j : Int) + 48 = f + 48 + j by omega]; exact c⟩
    · rw [if_neg c] at h2
      exact ihj h2
theorem anyTo_44 {c c' : Int → Bool} (h : ∀ k, c' k = c k) : ∀ n, anyTo c' n = anyTo c n := by
  intro n
  induction n with
  | zero => rfl
  | succ n ih => unfold anyTo; rw [ih, h]
theorem anyTo_iff {c : Int → Bool} : ∀ n : Nat, anyTo c n = true ↔ ∃ k : Nat, k < n ∧ c k = true := by
  intro n
  induction n with
  | zero => exact ⟨fun h => absurd h (show ¬ false = true by decide), fun ⟨k, h, _⟩ => absurd h (Nat.not_lt_zero _)⟩
  | succ n ih =>
    unfold anyTo
    rw [Bool.or_eq_true, ih]
    constructor
    · rintro (⟨k, h1, h2⟩ | h)
      · exact ⟨k, by omega, h2⟩
      · exact ⟨n, by omega, h⟩
    · rintro ⟨k, h1, h2⟩
      by_cases e : k = n
      · subst e; exact Or.inr h2
      · exact Or.inl ⟨k, by omega, h2⟩
theorem bsy_hi {t people : Int} {S : MS} (h : WR t S) {x : Int} (hx : 1475 ≤ x) : bsy S people (x + 48) = false := by
  have hn := h.nn
  cases e : bsy S people (x + 48)
  · rfl
  · unfold bsy at e
    rw [anyTo_iff] at e
    obtain ⟨k, k1, k2⟩ := e
    unfold ppl at k2
    simp only [Bool.and_eq_true] at k2
    obtain ⟨⟨-, k3⟩, k4⟩ := k2
    have k3 : (k : Int) % 8 < mf S 3 := of_decide_eq_true k3
    rw [anyTo_iff] at k4
    obtain ⟨d, d1, d2⟩ := k4
    unfold dayC at d2
    simp only [Bool.and_eq_true] at d2
    have hh := dat_here (by omega) (by omega) d2.1.1
    have hv := here_ver h (show 0 ≤ (k : Int) / 8 by omega) (by omega) (show 0 ≤ (k : Int) % 8 by omega) k3 hh
    have hvs := h.vs hv.1 hv.2
    have hb := begOf_r (d := (d : Int)) h hv.1 hv.2 (by omega) (by omega)
    have d3 := of_decide_eq_true d2.2
    omega
theorem ppl_44 {S S' : MS} (e : EQ44 S' S) (people y : Int) (k : Int) : ppl S' people y k = ppl S people y k := by
  unfold ppl
  rw [e.2.2 3 (by decide), anyTo_44 (c := dayC S (k / 8) (k % 8) y) (fun d => by unfold dayC; rw [datOf_44 e, rankFor_44 e, begOf_44 e, verOf_44 e, e.1 13 (by decide)])]
theorem bsy_44 {S S' : MS} (e : EQ44 S' S) (people y : Int) : bsy S' people y = bsy S people y := anyTo_44 (fun k => ppl_44 e people y k) 40
def gF (people from_ hours : Int) : Bool := decide (1 ≤ people ∧ people ≤ 31) && decide (-48 ≤ from_ ∧ from_ ≤ 1500) && decide (1 ≤ hours ∧ hours ≤ 48)
theorem e_firstFree {t people f hh : Int} {S : MS} (h : WR t S) (h0 : -2147483648 ≤ people) (h1 : people < 2147483648) (h2 : -2147483648 ≤ f) (h3 : f < 2147483648) (h4 : -2147483648 ≤ hh) (h5 : hh < 2147483648) :
    if gF people f hh = true then ∃ r, P_X7_firstFree (I people) (I f) (I hh) S = some (I r, setB (setf S 45 0) (bsy (setf S 45 0) people)) ∧ isFF (bsy S people) f hh r ∧ f ≤ r ∧ r ≤ 1548 else P_X7_firstFree (I people) (I f) (I hh) S = some (I 0, setf S 45 1) := by
  have e0 : P_X7_firstFree (I people) (I f) (I hh) S = (if (!gF people f hh) = true then pp (0 : Int32) else pb (pl 2000 (fun (s23 : Int32) => pp (decide (s23 < (1650 : Int32)))) (fun (s23 : Int32) => pb (psaz 44 s23 (0 : Int32)) (fun _ => pp (s23 + 1))) (0 : Int32)) (fun s30 => pb (pl 2000 (fun (s32 : Int32) => pp (decide (s32 < (40 : Int32)))) (fun (s32 : Int32) => pb (pdiv s32 (8 : Int32)) (fun v38 => pb (if (decide (((I people >>> (v38 &&& 31)) &&& (1 : Int32)) = (1 : Int32))) then pb (prem s32 (8 : Int32)) (fun v45 => pb (pgi 3) (fun v47 => pp (decide (v45 < v47)))) else pp false) (fun v56 => pb (if v56 then pb (pdiv s32 (8 : Int32)) (fun v54 => pb (prem s32 (8 : Int32)) (fun v55 => pb (P_X7_laysBusy v54 v55) (fun _ => pp ()))) else pp ()) (fun s57 => pp (s32 + 1))))) (0 : Int32)) (fun s58 => pb (pl 2000 (fun (s64 : Int32 × Int32 × Int32) => pp (decide (s64.1 < I hh))) (fun (s64 : Int32 × Int32 × Int32) => pb (pai 44 s64.2.2) (fun v70 => pb (if (decide (¬ v70 = 0)) then pp (0 : Int32) else pp (s64.1 + (1 : Int32))) (fun run_74 => pb (pai 44 s64.2.2) (fun v78 => pb (if (decide (¬ v78 = 0)) then pp ((s64.2.2 + (1 : Int32)) - (48 : Int32)) else pp s64.2.1) (fun begins_84 => pp (run_74, begins_84, (s64.2.2 + 1))))))) ((0 : Int32), I f, (I f + (48 : Int32)))) (fun s85 => pp s85.2.1)))) (setf S 45 (gc (gF people f hh) true true)) := by
    unfold P_X7_firstFree
    rw [show P_X7_in (I people) (1 : Int32) (31 : Int32) = pp (b2i (decide (1 ≤ people ∧ people ≤ 31))) from by rw [gl1, gl31]; exact e_in h0 h1 (by omega) (by omega) (by omega) (by omega), pb_pp, nb]
    rw [show P_X7_in (I f) (-48 : Int32) (1500 : Int32) = pp (b2i (decide (-48 ≤ f ∧ f ≤ 1500))) from by rw [show (-48 : Int32) = I (-48) from by decide, gl1500]; exact e_in h2 h3 (by omega) (by omega) (by omega) (by omega), pb_pp, nb, ifp, pb_pp]
    rw [show P_X7_in (I hh) (1 : Int32) (48 : Int32) = pp (b2i (decide (1 ≤ hh ∧ hh ≤ 48))) from by rw [gl1, gl48]; exact e_in h4 h5 (by omega) (by omega) (by omega) (by omega), pb_pp, nb, ifp, pb_pp]
    rw [show (decide (1 ≤ people ∧ people ≤ 31) && decide (-48 ≤ f ∧ f ≤ 1500) && decide (1 ≤ hh ∧ hh ≤ 48)) = gF people f hh from rfl, pb_ok (e_goes1L _ _), nb, Bool.and_true, Bool.and_true]
  rw [e0]
  by_cases g : gF people f hh = true
  · rw [if_pos g, g]
    unfold gF at g
    simp only [Bool.and_eq_true, decide_eq_true_eq] at g
    obtain ⟨⟨g1, g2⟩, g3⟩ := g
    rw [show gc true true true = 0 from rfl]
    have hw := wr_thr 0 h
    have hb0 : ∀ y, bsy (setf S 45 0) people y = bsy S people y := fun y => bsy_44 (S := S) (S' := setf S 45 0) ⟨fun _ _ => rfl, rfl, fun J hJ => if_neg hJ⟩ people y
    have hbe : bsy S people = bsy (setf S 45 0) people := funext fun y => (hb0 y).symm
    rw [hbe]
    generalize setf S 45 0 = S0 at hw ⊢
    have hn0 := hw.nn
    -- the scan
    have hBhi : ∀ x, 1500 ≤ x → bsy S0 people (x + 48) = false := fun x hx => bsy_hi hw (by omega)
    have hM : hh ≤ (scanR (bsy S0 people) f (1500 - f + hh).toNat).1 := by
      have i1 := scan_inv (bsy S0 people) f (1500 - f + hh).toNat
      have i2 := scan_hi hBhi g2.2 (1500 - f + hh).toNat
      omega
    obtain ⟨N, n1, n2, n3⟩ := least_nat (P := fun j => hh ≤ (scanR (bsy S0 people) f j).1) (fun n => Int.lt_or_le (scanR (bsy S0 people) f n).1 hh |>.elim (fun q => Or.inr (by omega)) Or.inl) _ hM
    have iN := scan_inv (bsy S0 people) f N
    have iH := scan_hi hBhi g2.2 N
    have run1 : (scanR (bsy S0 people) f N).1 = hh := by
      cases N with
      | zero => have : (scanR (bsy S0 people) f 0).1 = 0 := rfl; omega
      | succ n =>
        have := n3 n (by omega)
        have hh2 : (scanR (bsy S0 people) f (n + 1)).1 = 0 ∨ (scanR (bsy S0 people) f (n + 1)).1 = (scanR (bsy S0 people) f n).1 + 1 := by
          have e := scan_step (bsy S0 people) f n
          rw [e]
          split
          · exact Or.inl rfl
          · exact Or.inr rfl
        omega
    refine ⟨(scanR (bsy S0 people) f N).2, ?_, ⟨iN.2.1, fun x x1 x2 => iN.2.2.2 x x1 (by omega), scan_min g3.1 N (fun k hk => by have := n3 k hk; omega)⟩, iN.2.1, by omega⟩
    rw [if_neg (by decide)]
    -- all is cleared
    have clr : ∀ j : Nat, j ≤ 1650 → pl 2000 (fun (s23 : Int32) => pp (decide (s23 < (1650 : Int32)))) (fun (s23 : Int32) => pb (psaz 44 s23 (0 : Int32)) (fun _ => pp (s23 + 1))) (0 : Int32) S0 = some (I 1650, setB S0 (fun _ => false)) := fun _ _ => by
      have e1 : S0 = ((fun J y => if J = 44 ∧ 0 ≤ y ∧ y < ((0 : Nat) : Int) then 0 else ma S0 J y, S0.2) : MS) := ms_ext (fun J y => by
        show ma S0 J y = if J = 44 ∧ 0 ≤ y ∧ y < ((0 : Nat) : Int) then 0 else ma S0 J y
        rw [if_neg (by omega)]) (fun _ _ => rfl) (fun _ => rfl)
      refine Eq.trans (congrArg (pl 2000 _ _ (0 : Int32)) e1) ?_
      refine Eq.trans (pl_run (fun j => I j) (fun (j : Nat) => ((fun J y => if J = 44 ∧ 0 ≤ y ∧ y < (j : Int) then 0 else ma S0 J y, S0.2) : MS)) 1650 2000 (fun j hj => ?_) (fun j hj => ?_) ?_ (by omega)) ?_
      · rw [pp_ap, gl1650, d_lt (by omega) (by omega) (by omega) (by omega), decide_eq_true (by omega)]
      · try simp only
        rw [gl0, gw44 (by omega) (by omega) (by omega), pp_ap, gl1, I_add]
        congr 2
        refine ms_ext (fun J y => ?_) (fun _ _ => rfl) (fun _ => rfl)
        show (if J = 44 ∧ y = j then 0 else if J = 44 ∧ 0 ≤ y ∧ y < (j : Int) then 0 else ma S0 J y) = if J = 44 ∧ 0 ≤ y ∧ y < ((j + 1 : Nat) : Int) then 0 else ma S0 J y
        by_cases c : J = 44 ∧ y = j
        · rw [if_pos c, if_pos (by omega)]
        · rw [if_neg c]
          by_cases d : J = 44 ∧ 0 ≤ y ∧ y < (j : Int)
          · rw [if_pos d, if_pos (by omega)]
          · rw [if_neg d, if_neg (by omega)]
      · rw [pp_ap, gl1650, d_lt (by omega) (by omega) (by omega) (by omega), decide_eq_false (by omega)]
      · rfl
    rw [pb_ok (clr 0 (by omega))]
    -- all is laid
    have e2 : setB S0 (fun _ => false) = setB S0 (fun y => anyTo (ppl S0 people y) 0) := rfl
    rw [e2]
    refine Eq.trans (pb_ok (pl_run (fun j => I j) (fun j => setB S0 (fun y => anyTo (ppl S0 people y) j)) 40 2000 (fun j hj => ?_) (fun j hj => ?_) ?_ (by omega))) ?_
    · rw [pp_ap, gl40, d_lt (by omega) (by omega) (by omega) (by omega), decide_eq_true (by omega)]
    · have e3 : ∀ y, anyTo (ppl S0 people y) (j + 1) = (anyTo (ppl S0 people y) j || ppl S0 people y j) := fun _ => rfl
      simp only [e3]
      generalize hB : (fun y => anyTo (ppl S0 people y) j) = B
      have hB' : ∀ y, (anyTo (ppl S0 people y) j || ppl S0 people y j) = (B y || ppl S0 people y j) := fun y => by rw [← hB]
      simp only [hB']
      have hpl : ∀ y, ppl S0 people y j = (hb people ((j : Int) / 8) && decide ((j : Int) % 8 < mf S0 3) && anyTo (dayC S0 ((j : Int) / 8) ((j : Int) % 8) y) 60) := fun _ => rfl
      have e4 : mf (setB S0 B) 3 = mf S0 3 := rfl
      have hdiv : pdiv (I (j : Int)) (8 : Int32) = pp (I ((j : Int) / 8)) := by rw [gl8]; exact e_div (by omega) (by omega) (by omega) (by omega)
      have hrem : prem (I (j : Int)) (8 : Int32) = pp (I ((j : Int) % 8)) := by rw [gl8]; exact e_rem (by omega) (by omega) (by omega) (by omega)
      rw [hdiv, pb_pp, hb_d]
      rw [pb_ok (if_and1 (b := decide ((j : Int) % 8 < mf S0 3)) (fun _ => by rw [hrem, pb_pp, r_gi, pp_ap, e4, d_lt (by omega) (by omega) (by omega) (by omega)]))]
      by_cases c : (hb people ((j : Int) / 8) && decide ((j : Int) % 8 < mf S0 3)) = true
      · have c2 := c
        rw [Bool.and_eq_true] at c2
        have c3 := of_decide_eq_true c2.2
        rw [if_pos c, pb_pp, pb_assoc, hrem, pb_pp, pb_assoc, pb_ok (e_laysBusy hw (by omega) (by omega) (by omega) c3), pb_pp, pp_ap, gl1, I_add]
        congr 2
        refine setB_ext (fun y _ _ => ?_)
        rw [hpl, c, Bool.true_and]
      · rw [if_neg c, pb_pp, pp_ap, gl1, I_add]
        congr 2
        refine setB_ext (fun y _ _ => ?_)
        rw [hpl, Bool.eq_false_iff.mpr c, Bool.false_and, Bool.or_false]
    · rw [pp_ap, gl40, d_lt (by omega) (by omega) (by omega) (by omega), decide_eq_false (by omega)]
    · rw [show (fun y => anyTo (ppl S0 people y) 40) = bsy S0 people from rfl]
      have hB44 : ∀ y, 0 ≤ y → y < 1650 → ma (setB S0 (bsy S0 people)) 44 y = if bsy S0 people y = true then 1 else 0 := fun y y0 y1 => if_pos ⟨rfl, y0, y1⟩
      rw [show I f + (48 : Int32) = I (f + 48 + ((0 : Nat) : Int)) from by rw [gl48, I_add, show f + 48 + ((0 : Nat) : Int) = f + 48 by omega]]
      refine Eq.trans (pb_ok (pl_run (fun j => (I (scanR (bsy S0 people) f j).1, I (scanR (bsy S0 people) f j).2, I (f + 48 + (j : Int)))) (fun _ => setB S0 (bsy S0 people)) N 2000 (fun j hj => ?_) (fun j hj => ?_) ?_ (by omega))) ?_
      · have := n3 j hj
        have ij := scan_inv (bsy S0 people) f j
        rw [pp_ap, d_lt (by omega) (by omega) (by omega) (by omega), decide_eq_true (by omega)]
      · have ij := scan_inv (bsy S0 people) f j
        have hy := hB44 (f + 48 + j) (by omega) (by omega)
        have es : scanR (bsy S0 people) f (j + 1) = if bsy S0 people (f + 48 + j) = true then (0, f + j + 1) else ((scanR (bsy S0 people) f j).1 + 1, (scanR (bsy S0 people) f j).2) := rfl
        rw [es]
        try simp only
        rw [gr44 (by omega) (by omega), hy]
        by_cases c : bsy S0 people (f + 48 + j) = true
        · rw [if_pos c, if_pos c, if_pos (by decide), pb_pp, gr44 (by omega) (by omega), hy, if_pos c, if_pos (by decide), pb_pp, pp_ap, gl1, gl48, I_add, I_sub, gl0, show f + 48 + (j : Int) + 1 - 48 = f + j + 1 by omega, show f + 48 + ((j + 1 : Nat) : Int) = f + 48 + (j : Int) + 1 by omega]
        · rw [if_neg c, if_neg c, if_neg (by decide), pb_pp, gr44 (by omega) (by omega), hy, if_neg c, if_neg (by decide), pb_pp, pp_ap, gl1, I_add, I_add, show f + 48 + ((j + 1 : Nat) : Int) = f + 48 + (j : Int) + 1 by omega]
      · have ij := scan_inv (bsy S0 people) f N
        rw [pp_ap, d_lt (by omega) (by omega) (by omega) (by omega), decide_eq_false (by omega)]
      · rfl
  · rw [if_neg g, Bool.eq_false_iff.mpr g, if_pos (by decide)]; rfl
