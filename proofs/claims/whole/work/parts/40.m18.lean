/-! the first free hour -/
/-- the same but for the row of busy hours and what was thrown -/
def EQ44 (S' S : MS) : Prop := (∀ J, J ≠ 44 → ma S' J = ma S J) ∧ ml S' = ml S ∧ ∀ J, J ≠ 45 → mf S' J = mf S J
section Q44
variable {S' S : MS}
theorem isHere_44 (h : EQ44 S' S) (p i : Int) : isHere S' p i = isHere S p i := by
  unfold isHere; rw [h.1 4 (by decide), h.1 5 (by decide), h.1 18 (by decide), h.1 19 (by decide), h.1 25 (by decide)]
theorem verOf_44 (h : EQ44 S' S) (p i : Int) : verOf S' p i = verOf S p i := by
  unfold verOf; rw [h.1 4 (by decide), h.1 5 (by decide), h.1 25 (by decide)]
theorem datOf_44 (h : EQ44 S' S) (p i : Int) : datOf S' p i = datOf S p i := by
  unfold datOf; rw [isHere_44 h, verOf_44 h, h.2.1]
theorem begOf_44 (h : EQ44 S' S) (v d : Int) : begOf S' v d = begOf S v d := by
  unfold begOf sCom sSum goalOf; rw [h.1 0 (by decide), h.1 1 (by decide), h.1 2 (by decide), h.1 10 (by decide), h.1 12 (by decide), h.1 24 (by decide), h.2.1]
theorem later_44 (h : EQ44 S' S) (k f : Int) : later S' k f = later S k f := by unfold later; rw [h.1 36 (by decide), h.1 39 (by decide)]
theorem bestTo_44 {c c' : Int → Bool} (h : EQ44 S' S) (hc : ∀ k, c' k = c k) : ∀ j, bestTo S' c' j = bestTo S c j := by
  intro j
  induction j with
  | zero => rfl
  | succ j ih => unfold bestTo; rw [ih, hc, later_44 h]
theorem answers_44 (h : EQ44 S' S) (i p d b : Int) (all : Bool) : answers S' i p d b all = answers S i p d b all := by
  unfold answers
  rw [h.2.2 29 (by decide), bestTo_44 (c := cA S i p d b all) h (fun k => by unfold cA standOf; rw [h.1 31 (by decide), h.1 34 (by decide), h.1 32 (by decide), h.1 37 (by decide), h.1 42 (by decide), h.1 36 (by decide), h.1 24 (by decide)]), h.1 38 (by decide)]
theorem rankFor_44 (h : EQ44 S' S) (p i d : Int) : rankFor S' p i d = rankFor S p i d := by
  unfold rankFor ownOf; rw [answers_44 h, h.1 4 (by decide), h.1 25 (by decide)]
end Q44
def setB (S : MS) (b : Int → Bool) : MS := (fun J y => if J = 44 ∧ 0 ≤ y ∧ y < 1650 then (if b y = true then 1 else 0) else ma S J y, S.2)
theorem eq_setB (S : MS) (b : Int → Bool) : EQ44 (setB S b) S := ⟨fun J hJ => funext fun y => if_neg (fun q => hJ q.1), rfl, fun _ _ => rfl⟩
theorem wr_44 {t : Int} {S S' : MS} (h : WR t S) (e : EQ44 S' S) : WR t S' := by
  obtain ⟨e1, e2, e3⟩ := e
  refine ⟨?_, fun z g0 g1 => ?_, fun j g0 g1 => ?_, fun v g0 g1 => ?_, fun v g0 g1 d g2 g3 => ?_, fun q j g0 g1 g2 g3 => ?_, fun q g0 g1 => ?_, fun k g0 g1 => ?_⟩
  · rw [e3 3 (by decide), e3 7 (by decide), e3 29 (by decide), e3 30 (by decide)]; exact h.nn
  · rw [e1 0 (by decide), e1 1 (by decide), e1 2 (by decide)]; exact h.zn g0 g1
  · rw [e3 3 (by decide)] at g1
    rw [e1 4 (by decide), e1 5 (by decide), e1 6 (by decide), e3 7 (by decide)]; exact h.mt g0 g1
  · rw [e3 7 (by decide)] at g1
    rw [e1 8 (by decide), e1 9 (by decide), e1 10 (by decide), e1 11 (by decide), e1 12 (by decide), e1 13 (by decide), e1 14 (by decide), e1 15 (by decide), e1 16 (by decide), e1 17 (by decide), e1 18 (by decide), e1 19 (by decide)]; exact h.vs g0 g1
  · rw [e3 7 (by decide)] at g1
    rw [e1 24 (by decide)]; exact h.dl g0 g1 g2 g3
  · rw [e1 25 (by decide), e1 26 (by decide), e1 27 (by decide), e3 7 (by decide)]; exact h.cp g0 g1 g2 g3
  · rw [e1 27 (by decide), e1 28 (by decide)]; exact h.ps g0 g1
  · rw [e3 29 (by decide)] at g1
    rw [e1 31 (by decide), e1 32 (by decide), e1 33 (by decide), e1 34 (by decide), e1 35 (by decide), e1 36 (by decide), e1 37 (by decide), e1 38 (by decide), e1 39 (by decide), e1 40 (by decide), e1 41 (by decide), e1 42 (by decide), e1 43 (by decide), e3 3 (by decide), e3 7 (by decide)]; exact h.ms g0 g1
theorem setB_ext {S : MS} {b c : Int → Bool} (h : ∀ y, 0 ≤ y → y < 1650 → b y = c y) : setB S b = setB S c := ms_ext (fun J y => by
  show (if J = 44 ∧ 0 ≤ y ∧ y < 1650 then (if b y = true then 1 else 0) else ma S J y) = if J = 44 ∧ 0 ≤ y ∧ y < 1650 then (if c y = true then 1 else 0) else ma S J y
  by_cases q : J = 44 ∧ 0 ≤ y ∧ y < 1650
  · rw [if_pos q, if_pos q, h y q.2.1 q.2.2]
  · rw [if_neg q, if_neg q]) (fun _ _ => rfl) (fun _ => rfl)
theorem setB_write {S : MS} {b : Int → Bool} {n : Int} (v : Bool) (h0 : 0 ≤ n) (h1 : n < 1650) : seta (setB S b) 44 n (if v = true then 1 else 0) = setB S (fun y => if y = n then v else b y) := ms_ext (fun J y => by
  show (if J = 44 ∧ y = n then (if v = true then 1 else 0) else if J = 44 ∧ 0 ≤ y ∧ y < 1650 then (if b y = true then 1 else 0) else ma S J y) = if J = 44 ∧ 0 ≤ y ∧ y < 1650 then (if (if y = n then v else b y) = true then 1 else 0) else ma S J y
  by_cases q : J = 44 ∧ y = n
  · rw [if_pos q, if_pos (show J = 44 ∧ 0 ≤ y ∧ y < 1650 from ⟨q.1, by omega⟩), if_pos q.2]
  · rw [if_neg q]
    by_cases r : J = 44 ∧ 0 ≤ y ∧ y < 1650
    · rw [if_pos r, if_pos r, if_neg (fun z => q ⟨r.1, z⟩)]
    · rw [if_neg r, if_neg r]) (fun _ _ => rfl) (fun _ => rfl)
theorem setB_id (S : MS) (h : ∀ y, 0 ≤ y → y < 1650 → ma S 44 y = 0 ∨ ma S 44 y = 1) : S = setB S (fun y => decide (ma S 44 y = 1)) := ms_ext (fun J y => by
  show ma S J y = if J = 44 ∧ 0 ≤ y ∧ y < 1650 then (if decide (ma S 44 y = 1) = true then 1 else 0) else ma S J y
  by_cases q : J = 44 ∧ 0 ≤ y ∧ y < 1650
  · rw [if_pos q, q.1]
    rcases h y q.2.1 q.2.2 with e | e
    · rw [e]; rfl
    · rw [e]; rfl
  · rw [if_neg q]) (fun _ _ => rfl) (fun _ => rfl)
/-- an hour, by its place in the row, that a date takes in earnest -/
def dayC (S : MS) (p i y d : Int) : Bool := hl (datOf S p i) d && decide (rankFor S p i d = 2) && decide (48 + begOf S (verOf S p i) d ≤ y ∧ y < 48 + begOf S (verOf S p i) d + ma S 13 (verOf S p i))
def anyTo (c : Int → Bool) : Nat → Bool
  | 0 => false
  | j + 1 => anyTo c j || c j
theorem e_laysBusy {t p i : Int} {S : MS} {b : Int → Bool} (h : WR t S) (hp : 0 ≤ p) (hp' : p < 5) (hi : 0 ≤ i) (hi' : i < mf S 3) : P_X7_laysBusy (I p) (I i) (setB S b) = some ((), setB S (fun y => b y || anyTo (dayC S p i y) 60)) := by
  have hn := h.nn
  have hwB : ∀ c, WR t (setB S c) := fun c => wr_44 h (eq_setB S c)
  unfold P_X7_laysBusy
  rw [pb_ok (e_datesOf (hwB b) hp hp' hi hi'), datOf_44 (eq_setB S b)]
  have e0 : setB S b = setB S (fun y => b y || anyTo (dayC S p i y) 0) := setB_ext (fun y _ _ => (Bool.or_false _).symm)
  rw [e0]
  refine Eq.trans (pb_ok (pl_run (fun j => I j) (fun j => setB S (fun y => b y || anyTo (dayC S p i y) j)) 60 2000 (fun j hj => ?_) (fun j hj => ?_) ?_ (by omega))) ?_
  · rw [pp_ap, gl60, d_lt (by omega) (by omega) (by omega) (by omega), decide_eq_true (by omega)]
  · have e1 : ∀ y, anyTo (dayC S p i y) (j + 1) = (anyTo (dayC S p i y) j || dayC S p i y j) := fun _ => rfl
    simp only [e1]
    generalize hB : (fun y => b y || anyTo (dayC S p i y) j) = B
    have hB' : ∀ y, (b y || (anyTo (dayC S p i y) j || dayC S p i y j)) = (B y || dayC S p i y j) := fun y => by rw [← hB, ← Bool.or_assoc]
    simp only [hB']
    rw [e_has, pb_pp, nb]
    have hw := hwB B
    by_cases a : hl (datOf S p i) j = true
    · have hh := dat_here (by omega) (by omega) a
      have hv := here_ver h hp hp' hi hi' hh
      have hvs := h.vs hv.1 hv.2
      have hbg := begOf_r (d := (j : Int)) h hv.1 hv.2 (by omega) (by omega)
      have hrk := rank_r S p i j
      have hrf := e_rankFor (p := p) (i := i) (d := (j : Int)) hw hp hp' hi hi' (by omega) (by omega) (by rw [isHere_44 (eq_setB S B)]; exact hh)
      rw [rankFor_44 (eq_setB S B)] at hrf
      rw [a, if_pos rfl, pb_assoc, pb_ok hrf, pb_pp, gl2, d_eq (by omega) (by omega) (by omega) (by omega)]
      by_cases c : rankFor S p i j = 2
      · have hvo := e_versionOf (p := p) (i := i) hw hp hp' hi hi'
        rw [verOf_44 (eq_setB S B)] at hvo
        have hbo := e_beginOf (v := verOf S p i) (d := (j : Int)) hw hv.1 hv.2 (by omega) (by omega)
        rw [begOf_44 (eq_setB S B)] at hbo
        have hdc : ∀ y, dayC S p i y j = decide (48 + begOf S (verOf S p i) j ≤ y ∧ y < 48 + begOf S (verOf S p i) j + ma S 13 (verOf S p i)) := fun y => by
          unfold dayC; rw [a, decide_eq_true c]; rfl
        simp only [hdc]
        generalize begOf S (verOf S p i) j = g at hbg hbo ⊢
        have hm13 : ∀ c, ma (setB S c) 13 (verOf S p i) = ma S 13 (verOf S p i) := fun _ => rfl
        rw [decide_eq_true c, if_pos rfl, pb_assoc, pb_ok hvo, pb_assoc, pb_ok hbo, pb_assoc]
        generalize verOf S p i = v at hv hvs hm13 ⊢
        generalize ma S 13 v = ln at hvs hm13 ⊢
        have ez : ∀ x : Int32, x = I (48 + g) → pb (pl 2000 (fun (s30 : Int32) => pb (pai 13 (I v)) (fun v36 => pp (decide (s30 < (((48 : Int32) + I g) + v36))))) (fun (s30 : Int32) => pb (psaz 44 s30 (1 : Int32)) (fun _ => pp (s30 + 1))) x) (fun s42 => pb (pp ()) (fun s44 => pp (I (j : Int) + 1))) (setB S B) = some (I ((j + 1 : Nat) : Int), setB S (fun y => B y || decide (48 + g ≤ y ∧ y < 48 + g + ln))) := fun x hx => by
          rw [hx]
          have eB : setB S B = setB S (fun y => B y || decide (48 + g ≤ y ∧ y < 48 + g + ((0 : Nat) : Int))) := setB_ext (fun y _ _ => by rw [decide_eq_false (by omega), Bool.or_false])
          rw [eB, show I (48 + g) = I (48 + g + ((0 : Nat) : Int)) from by rw [show 48 + g + ((0 : Nat) : Int) = 48 + g by omega]]
          refine Eq.trans (pb_ok (pl_run (fun n => I (48 + g + (n : Int))) (fun n => setB S (fun y => B y || decide (48 + g ≤ y ∧ y < 48 + g + (n : Int)))) ln.toNat 2000 (fun n hn1 => ?_) (fun n hn1 => ?_) ?_ (by omega))) ?_
          · try simp only
            rw [gr13 (by omega) (by omega), hm13, pp_ap, gl48, I_add, I_add, d_lt (by omega) (by omega) (by omega) (by omega), decide_eq_true (by omega)]
          · try simp only
            rw [show (1 : Int32) = I 1 from gl1, gw44 (by omega) (by omega) (by omega), pp_ap, I_add]
            have := setB_write (S := S) (b := fun y => B y || decide (48 + g ≤ y ∧ y < 48 + g + (n : Int))) (n := 48 + g + n) true (by omega) (by omega)
            rw [show (if true = true then (1 : Int) else 0) = 1 from rfl] at this
            rw [this, show 48 + g + (n : Int) + 1 = 48 + g + ((n + 1 : Nat) : Int) by omega]
            congr 2
            refine setB_ext (fun y _ _ => ?_)
            by_cases e : y = 48 + g + n
            · rw [if_pos e, decide_eq_true (by omega), Bool.or_true]
            · rw [if_neg e]
              congr 1
              exact decide_eq_decide.mpr (by omega)
          · try simp only
            rw [gr13 (by omega) (by omega), hm13, pp_ap, gl48, I_add, I_add, d_lt (by omega) (by omega) (by omega) (by omega), decide_eq_false (by omega)]
          · rw [pb_pp, pp_ap, gl1, I_add]
            congr 2
            refine setB_ext (fun y _ _ => ?_)
            congr 1
            exact decide_eq_decide.mpr (by omega)
        exact ez _ (by rw [gl48, I_add])
      · rw [decide_eq_false c, if_neg (by decide), pb_pp, pp_ap, gl1, I_add]
        have hdc : ∀ y, dayC S p i y j = false := fun y => by unfold dayC; rw [decide_eq_false c, Bool.and_false, Bool.false_and]
        simp only [hdc, Bool.or_false]
        rfl
    · rw [Bool.eq_false_iff.mpr a, if_neg (by decide), pb_pp, if_neg (by decide), pb_pp, pp_ap, gl1, I_add]
      have hdc : ∀ y, dayC S p i y j = false := fun y => by unfold dayC; rw [Bool.eq_false_iff.mpr a, Bool.false_and, Bool.false_and]
      simp only [hdc, Bool.or_false]
      rfl
  · rw [pp_ap, gl60, d_lt (by omega) (by omega) (by omega) (by omega), decide_eq_false (by omega)]
  · rfl
def ppl (S : MS) (people y k : Int) : Bool := hb people (k / 8) && decide (k % 8 < mf S 3) && anyTo (dayC S (k / 8) (k % 8) y) 60
/-- whether one of some people is busy at an hour -/
def bsy (S : MS) (people y : Int) : Bool := anyTo (ppl S people y) 40
