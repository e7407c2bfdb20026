def SQ (S : MS) : Prop := (∀ p i : Int, 0 ≤ p → p < 5 → 0 ≤ i → i < mf S 3 → ma S 25 (8 * p + i) = -1 ∨ ma S 25 (8 * p + i) = ma S 5 i ∨ ma S 9 (ma S 25 (8 * p + i)) < ma S 9 (ma S 5 i)) ∧
  ∀ k : Int, 0 ≤ k → k < mf S 29 → ma S 31 k = 0 → ma S 35 k = ma S 5 (ma S 34 k) ∨ ma S 9 (ma S 35 k) < ma S 9 (ma S 5 (ma S 34 k))
def IL (S : MS) : Prop := ∀ i p : Int, 0 ≤ i → i < mf S 3 → 0 ≤ p → p < 5 → hb (ma S 17 (ma S 5 i)) p = true → hb (ma S 18 (ma S 5 i)) p = false
def NO (S : MS) : Prop := (∀ i : Int, 0 ≤ i → i < mf S 3 → hb (ma S 17 (ma S 5 i)) (ma S 4 i) = false ∧ hb (ma S 6 i) (ma S 4 i) = false) ∧
  (∀ k : Int, 0 ≤ k → k < mf S 29 → ma S 31 k = 1 → ma S 38 k = 4 → ma S 40 k ≠ ma S 4 (ma S 34 k)) ∧ ∀ k : Int, 0 ≤ k → k < mf S 29 → ma S 31 k = 0 → ma S 33 k ≠ ma S 4 (ma S 34 k)
def NV (S : MS) : Prop := (∀ i j : Int, 0 ≤ i → i < mf S 3 → 0 ≤ j → j < mf S 3 → i ≠ j → ma S 5 i ≠ ma S 5 j) ∧
  (∀ p i : Int, 0 ≤ p → p < 5 → 0 ≤ i → i < mf S 3 → ma S 25 (8 * p + i) = -1 ∨ ma S 8 (ma S 25 (8 * p + i)) = 1) ∧
  (∀ k : Int, 0 ≤ k → k < mf S 29 → ma S 31 k = 0 → 0 ≤ ma S 35 k ∧ ma S 8 (ma S 35 k) = 1) ∧
  (∀ v : Int, 0 ≤ v → v < mf S 7 → (∃ i, 0 ≤ i ∧ i < mf S 3 ∧ ma S 5 i = v) ∨ ∃ k, 0 ≤ k ∧ k < mf S 29 ∧ ma S 35 k = v) ∧
  ∀ v : Int, 0 ≤ v → v < mf S 7 → ma S 8 v = 1 → ∃ k, 0 ≤ k ∧ k < mf S 29 ∧ ma S 35 k = v
def DT (S : MS) : Prop := ∀ v : Int, 0 ≤ v → v < mf S 7 → ml S 23 v = dts S v
def LBS (S : MS) : Prop := ∀ v : Int, 0 ≤ v → v < mf S 7 → (ml S 20 v).toBitVec.toNat < 2 ^ 60
def DE (S : MS) : Prop := ∀ p i j : Int, 0 ≤ p → p < 5 → 0 ≤ i → i < 8 → 0 ≤ j → j < 8 → i ≠ j → ma S 26 (8 * p + i) = ma S 26 (8 * p + j) → ma S 26 (8 * p + i) = 0
def SI (t : Int) (S : MS) : Prop :=
  (WR t S) ∧ (FRV S) ∧ (MQS S) ∧ (LO S) ∧ (RP S) ∧ (SQ S) ∧ (IL S) ∧ (NO S) ∧ (NV S) ∧ (DT S) ∧ (LBS S) ∧ (DE S)
theorem SI.wr {t : Int} {S : MS} (h : SI t S) : WR t S := h.1
theorem SI.fr {t : Int} {S : MS} (h : SI t S) : FRV S := h.2.1
theorem SI.mq {t : Int} {S : MS} (h : SI t S) : MQS S := h.2.2.1
theorem SI.lo {t : Int} {S : MS} (h : SI t S) : LO S := h.2.2.2.1
theorem SI.rp {t : Int} {S : MS} (h : SI t S) : RP S := h.2.2.2.2.1
theorem SI.sq {t : Int} {S : MS} (h : SI t S) : SQ S := h.2.2.2.2.2.1
theorem SI.il {t : Int} {S : MS} (h : SI t S) : IL S := h.2.2.2.2.2.2.1
theorem SI.no {t : Int} {S : MS} (h : SI t S) : NO S := h.2.2.2.2.2.2.2.1
theorem SI.nv {t : Int} {S : MS} (h : SI t S) : NV S := h.2.2.2.2.2.2.2.2.1
theorem SI.dt {t : Int} {S : MS} (h : SI t S) : DT S := h.2.2.2.2.2.2.2.2.2.1
theorem SI.lb {t : Int} {S : MS} (h : SI t S) : LBS S := h.2.2.2.2.2.2.2.2.2.2.1
theorem SI.de {t : Int} {S : MS} (h : SI t S) : DE S := h.2.2.2.2.2.2.2.2.2.2.2
def KP (sv : Nat) (m m' : QM) : Prop := qtop m ≤ qtop m' ∧ ∀ b, sv + 20 ≤ b → b < sv + 23 → qty m' b = qty m b ∧ (∀ f, qfi m' f b = qfi m f b) ∧ (∀ f, qfr m' f b = qfr m f b) ∧ qai m' b = qai m b ∧ qal m' b = qal m b
theorem KP.refl (sv : Nat) (m : QM) : KP sv m m := ⟨Nat.le_refl _, fun _ _ _ => ⟨rfl, fun _ => rfl, fun _ => rfl, rfl, rfl⟩⟩
theorem KP.trans {sv : Nat} {m m' m2 : QM} (h : KP sv m m') (g : KP sv m' m2) : KP sv m m2 :=
  ⟨Nat.le_trans h.1 g.1, fun b x y => ⟨(g.2 b x y).1.trans (h.2 b x y).1, fun f => ((g.2 b x y).2.1 f).trans ((h.2 b x y).2.1 f), fun f => ((g.2 b x y).2.2.1 f).trans ((h.2 b x y).2.2.1 f), (g.2 b x y).2.2.2.1.trans (h.2 b x y).2.2.2.1, (g.2 b x y).2.2.2.2.trans (h.2 b x y).2.2.2.2⟩⟩
theorem SC.kp {sv : Nat} {m m' : QM} (h : SC sv m m') : KP sv m m' := by
  obtain ⟨h1, h2, h3, h4, h5, h6, h7, h8⟩ := h
  exact ⟨by omega, fun b x y => ⟨by rw [h2], fun f => by rw [h3], fun f => by rw [h5], h8 b (by omega) (by omega), by rw [h6]⟩⟩
def OUT {α : Type} (sv : Nat) (x : QX α) (m : QM) (r : Except Nat α) (S' : MS) : Prop := ∃ G' m', x m = some (r, m') ∧ CR sv G' S' m' ∧ KP sv m m'
def rs3 {α : Type} (a b c : Bool) (v : α) : Except Nat α := if a = false then .error 1 else if b = false then .error 2 else if c = false then .error 3 else .ok v
theorem rs3_1 {α : Type} {a b c : Bool} {v : α} (h : ¬ a = true) : rs3 a b c v = .error 1 := if_pos (Bool.eq_false_iff.mpr h)
theorem rs3_2 {α : Type} {a b c : Bool} {v : α} (h : a = true) (h2 : ¬ b = true) : rs3 a b c v = .error 2 := (if_neg (by rw [h]; decide)).trans (if_pos (Bool.eq_false_iff.mpr h2))
theorem rs3_3 {α : Type} {a b c : Bool} {v : α} (h : a = true) (h2 : b = true) (h3 : ¬ c = true) : rs3 a b c v = .error 3 := (if_neg (by rw [h]; decide)).trans ((if_neg (by rw [h2]; decide)).trans (if_pos (Bool.eq_false_iff.mpr h3)))
theorem rs3_4 {α : Type} {a b c : Bool} {v : α} (h : a = true) (h2 : b = true) (h3 : c = true) : rs3 a b c v = .ok v := (if_neg (by rw [h]; decide)).trans ((if_neg (by rw [h2]; decide)).trans (if_neg (by rw [h3]; decide)))
theorem xb_need {α β : Type} {x : QX α} {f : α → QX β} {m : QM} {g : Bool} {v : α} {e : Nat} (h : x m = if g = true then some (.ok v, m) else some (.error e, m)) : xb x f m = if g = true then f v m else some (.error e, m) := by
  by_cases q : g = true
  · rw [if_pos q] at h ⊢; exact xb_ok h
  · rw [if_neg q] at h ⊢; exact xb_er h
section C6
variable {sv : Nat} {G : GM} {S : MS} {m : QM} {t : Int}
theorem OUT.q {α : Type} {x : QX α} {r : Except Nat α} (h : CR sv G S m) (e : x m = some (r, m)) : OUT sv x m r S := ⟨G, m, e, h, KP.refl _ _⟩
theorem OUT.s {α : Type} {x : QX α} {r : Except Nat α} {m' : QM} (h : CR sv G S m) (c : SC sv m m') (e : x m = some (r, m')) : OUT sv x m r S := ⟨G, m', e, h.sc c, c.kp⟩
theorem pm {β : Type} {p i : Int} {f : Option Nat → QX β} (h : CR sv G S m) (hw : WR t S) (pl : -2147483648 ≤ p) (ph : p < 2147483648) (il : -2147483648 ≤ i) (ih : i < 2147483648) : xb (F_X6_needPerson (I p)) (fun _ => xb (xo 7 (some sv) fun q => F_X6_meetingNumbered q (I i)) f) m = if gPM S p i = true then f (some (am G i)) m else some (.error 1, m) := by
  rw [xb_need (c_needPerson pl ph), ← pm_eq, show decide (0 ≤ p ∧ p ≤ 4) = gP p from rfl]
  by_cases g : gP p = true
  · rw [if_pos g, os_b h.cf, xb_need (c_meetingNumbered h hw il ih), g, Bool.true_and]
  · rw [if_neg g, Bool.eq_false_iff.mpr g]; rfl
theorem mp {β : Type} {p i : Int}  (h : CR sv G S m) (hw : WR t S) (pl : -2147483648 ≤ p) (ph : p < 2147483648) (il : -2147483648 ≤ i) (ih : i < 2147483648) (f : Option Nat → QX β) : xb (xo 7 (some sv) fun q => F_X6_meetingNumbered q (I i)) (fun a => xb (F_X6_needPerson (I p)) fun _ => f a) m = if gPM S p i = true then f (some (am G i)) m else some (.error 1, m) := by
  rw [os_b h.cf, xb_need (c_meetingNumbered h hw il ih), ← pm_eq, show decide (0 ≤ p ∧ p ≤ 4) = gP p from rfl]
  by_cases g : gM S i = true
  · rw [if_pos g, xb_need (c_needPerson pl ph), g, Bool.and_true]
  · rw [if_neg g, Bool.eq_false_iff.mpr g, Bool.and_false]; rfl
theorem gM_d {i : Int} (g : gM S i = true) : 0 ≤ i ∧ i < mf S 3 := of_decide_eq_true g
theorem gK_d {k : Int} (g : gK S k = true) : 0 ≤ k ∧ k < mf S 29 := of_decide_eq_true g
theorem gP_d {p : Int} (g : gP p = true) : 0 ≤ p ∧ p < 5 := by have := of_decide_eq_true g; omega
theorem gD_d {d : Int} (g : gD d = true) : 0 ≤ d ∧ d < 60 := by have := of_decide_eq_true g; omega
theorem gZ_d {z : Int} (g : gZ z = true) : 0 ≤ z ∧ z < 3 := by have := of_decide_eq_true g; omega
theorem q_common {z w : Int} (h : CR sv G S m) (hw : WR t S) (zl : -2147483648 ≤ z) (zh : z < 2147483648) (wl : -2147483648 ≤ w) (wh : w < 2147483648) : OUT sv (F_X6_common sv (I z) (I w)) m (rs3 (gZ z) (gH2 w) true (I (sCom S z w))) S := by
  refine OUT.q h ?_
  unfold F_X6_common
  simp only [xb_xp, xb_as]
  rw [os_b h.cf, xb_need (c_zoneNumbered h zl zh)]
  by_cases g : gZ z = true
  · rw [if_pos g, show (-100 : Int32) = I (-100) by decide, show (2000 : Int32) = I 2000 by decide, xb_need (c_needRange wl wh (by decide) (by decide) (by decide) (by decide)), show gIn w (-100) 2000 = gH2 w from rfl]
    by_cases g2 : gH2 w = true
    · have q := of_decide_eq_true g2
      have gz := gZ_d g
      rw [if_pos g2, rs3_4 g g2 rfl, oz h.cf gz.1 gz.2]
      exact c_toCommon h hw gz.1 gz.2 (by omega) (by omega)
    · rw [if_neg g2, rs3_2 g g2]
  · rw [if_neg g, rs3_1 g]
theorem q_local {z w : Int} (h : CR sv G S m) (hw : WR t S) (zl : -2147483648 ≤ z) (zh : z < 2147483648) (wl : -2147483648 ≤ w) (wh : w < 2147483648) : OUT sv (F_X6_local sv (I z) (I w)) m (rs3 (gZ z) (gH2 w) true (I (sLoc S z w))) S := by
  refine OUT.q h ?_
  unfold F_X6_local
  simp only [xb_xp, xb_as]
  rw [os_b h.cf, xb_need (c_zoneNumbered h zl zh)]
  by_cases g : gZ z = true
  · rw [if_pos g, show (-100 : Int32) = I (-100) by decide, show (2000 : Int32) = I 2000 by decide, xb_need (c_needRange wl wh (by decide) (by decide) (by decide) (by decide)), show gIn w (-100) 2000 = gH2 w from rfl]
    by_cases g2 : gH2 w = true
    · have q := of_decide_eq_true g2
      have gz := gZ_d g
      rw [if_pos g2, rs3_4 g g2 rfl, oz h.cf gz.1 gz.2]
      exact c_toLocal h hw gz.1 gz.2 (by omega) (by omega)
    · rw [if_neg g2, rs3_2 g g2]
  · rw [if_neg g, rs3_1 g]
theorem q_messages (h : CR sv G S m) : OUT sv (F_X6_messages sv) m (.ok (I (mf S 29))) S := by
  refine OUT.q h ?_
  unfold F_X6_messages
  rw [xb_xp, x_gi rfl h.cf.ty h.f5]
theorem q_meetings (h : CR sv G S m) : OUT sv (F_X6_meetings sv) m (.ok (I (mf S 3))) S := by
  refine OUT.q h ?_
  unfold F_X6_meetings
  rw [xb_xp, x_gi rfl h.cf.ty h.f4]
theorem q_kindOf {k : Int} (h : CR sv G S m) (hw : WR t S) (kl : -2147483648 ≤ k) (kh : k < 2147483648) : OUT sv (F_X6_kindOf sv (I k)) m (rs3 (gK S k) true true (I (ma S 31 k))) S := by
  refine OUT.q h ?_
  unfold F_X6_kindOf
  simp only [xb_xp, xb_as]
  rw [os_b h.cf, xb_need (c_messageNumbered h hw kl kh)]
  by_cases g : gK S k = true
  · have q := gK_d g
    rw [if_pos g, rs3_4 g rfl rfl, x_gi rfl (h.mg k q.1 q.2).ty (h.mg k q.1 q.2).f0]
  · rw [if_neg g, rs3_1 g]
theorem q_receiver {k : Int} (h : CR sv G S m) (hw : WR t S) (kl : -2147483648 ≤ k) (kh : k < 2147483648) : OUT sv (F_X6_receiver sv (I k)) m (rs3 (gK S k) true true (I (ma S 33 k))) S := by
  refine OUT.q h ?_
  unfold F_X6_receiver
  simp only [xb_xp, xb_as]
  rw [os_b h.cf, xb_need (c_messageNumbered h hw kl kh)]
  by_cases g : gK S k = true
  · have q := gK_d g
    rw [if_pos g, rs3_4 g rfl rfl, x_gi rfl (h.mg k q.1 q.2).ty (h.mg k q.1 q.2).f3]
  · rw [if_neg g, rs3_1 g]
theorem q_isThere {p i : Int} (h : CR sv G S m) (hs : SI t S) (pl : -2147483648 ≤ p) (ph : p < 2147483648) (il : -2147483648 ≤ i) (ih : i < 2147483648) : OUT sv (F_X6_isThere sv (I p) (I i)) m (rs3 (gPM S p i) true true (b2i (isHere S p i))) S := by
  refine OUT.q h ?_
  unfold F_X6_isThere
  simp only [xb_xp, xb_as]
  rw [pm h hs.wr pl ph il ih]
  by_cases g : gPM S p i = true
  · have q := gPM_d g
    rw [if_pos g, rs3_4 g rfl rfl, om_b (h.mt i q.2.1 q.2.2), xb_ok (c_versionThere h hs.wr hs.lo q.1.1 q.1.2 q.2.1 q.2.2)]
    cases isHere S p i <;> rfl
  · rw [if_neg g, rs3_1 g]
theorem q_sequence {p i : Int} (h : CR sv G S m) (hs : SI t S) (pl : -2147483648 ≤ p) (ph : p < 2147483648) (il : -2147483648 ≤ i) (ih : i < 2147483648) : OUT sv (F_X6_sequence sv (I p) (I i)) m (rs3 (gPM S p i) true true (I (seqOf S p i))) S := by
  refine OUT.q h ?_
  unfold F_X6_sequence seqOf
  simp only [xb_xp, xb_as]
  rw [pm h hs.wr pl ph il ih]
  by_cases g : gPM S p i = true
  · have q := gPM_d g
    rw [if_pos g, rs3_4 g rfl rfl, om_b (h.mt i q.2.1 q.2.2), xb_ok (c_versionOf h hs.wr q.1.1 q.1.2 q.2.1 q.2.2)]
    by_cases e : verOf S p i = -1
    · have e2 : vO G S p i = none := by
        have hx := hs.wr.mt q.2.1 q.2.2
        unfold verOf at e
        unfold vO
        by_cases c : ma S 4 i = p
        · rw [if_pos c] at e; omega
        · rw [if_neg c] at e; rw [if_neg c, if_pos e]
      rw [e2, if_pos e, glm1]; rfl
    · obtain ⟨e1, hv⟩ := vO_v h q.1.1 q.1.2 q.2.1 q.2.2 e
      rw [e1, if_neg e, decide_eq_false (by simp), if_neg (by decide), x_gi rfl hv.ty hv.f0]
  · rw [if_neg g, rs3_1 g]
theorem q_begin {p i d : Int} (h : CR sv G S m) (hs : SI t S) (pl : -2147483648 ≤ p) (ph : p < 2147483648) (il : -2147483648 ≤ i) (ih : i < 2147483648) (dl : -2147483648 ≤ d) (dh : d < 2147483648) : OUT sv (F_X6_begin sv (I p) (I i) (I d)) m (rs3 (gPM S p i) (gD d) (gPD S p i d) (I (begOf S (verOf S p i) d))) S := by
  refine OUT.q h ?_
  unfold F_X6_begin
  simp only [xb_xp, xb_as]
  rw [pm h hs.wr pl ph il ih]
  by_cases g : gPM S p i = true
  · have q := gPM_d g
    rw [if_pos g, xb_need (c_needDay dl dh)]
    by_cases g2 : gD d = true
    · have q2 := gD_d g2
      rw [if_pos g2, xb_need (c_versionWithDate h hs.wr hs.lo q.1.1 q.1.2 q.2.1 q.2.2 q2.1 q2.2)]
      have e3 : gPD S p i d = hl (datOf S p i) d := by unfold gPD; rw [g, g2]; rfl
      by_cases g3 : hl (datOf S p i) d = true
      · have hh := dat_here q2.1 q2.2 g3
        have hv := here_ver hs.wr q.1.1 q.1.2 q.2.1 q.2.2 hh
        obtain ⟨-, hvs⟩ := vO_v h q.1.1 q.1.2 q.2.1 q.2.2 (show verOf S p i ≠ -1 by omega)
        rw [if_pos g3, rs3_4 g g2 (e3.trans g3), ov hvs]
        exact c_beginOf h hs.wr hvs hv.1 hv.2 q2.1 q2.2
      · rw [if_neg g3, rs3_3 g g2 (by rw [e3]; exact g3)]
    · rw [if_neg g2, rs3_2 g g2]
  · rw [if_neg g, rs3_1 g]
theorem q_ownAnswer {p i d : Int} (h : CR sv G S m) (hs : SI t S) (pl : -2147483648 ≤ p) (ph : p < 2147483648) (il : -2147483648 ≤ i) (ih : i < 2147483648) (dl : -2147483648 ≤ d) (dh : d < 2147483648) : OUT sv (F_X6_ownAnswer sv (I p) (I i) (I d)) m (rs3 (gPM S p i) (gD d) (gPD S p i d) (I (ownOf S p i d))) S := by
  refine OUT.q h ?_
  unfold F_X6_ownAnswer
  simp only [xb_xp, xb_as]
  rw [pm h hs.wr pl ph il ih]
  by_cases g : gPM S p i = true
  · have q := gPM_d g
    rw [if_pos g, xb_need (c_needDay dl dh)]
    by_cases g2 : gD d = true
    · have q2 := gD_d g2
      rw [if_pos g2, xb_need (c_versionWithDate h hs.wr hs.lo q.1.1 q.1.2 q.2.1 q.2.2 q2.1 q2.2)]
      have e3 : gPD S p i d = hl (datOf S p i) d := by unfold gPD; rw [g, g2]; rfl
      by_cases g3 : hl (datOf S p i) d = true
      · have hh := dat_here q2.1 q2.2 g3
        rw [if_pos g3, rs3_4 g g2 (e3.trans g3), om (h.mt i q.2.1 q.2.2)]
        exact c_ansOwn h hs.wr hs.rp q.2.1 q.2.2 q.1.1 q.1.2 q2.1 q2.2 hh
      · rw [if_neg g3, rs3_3 g g2 (by rw [e3]; exact g3)]
    · rw [if_neg g2, rs3_2 g g2]
  · rw [if_neg g, rs3_1 g]
theorem q_isAsked {p i : Int} (h : CR sv G S m) (hs : SI t S) (pl : -2147483648 ≤ p) (ph : p < 2147483648) (il : -2147483648 ≤ i) (ih : i < 2147483648) : OUT sv (F_X6_isAsked sv (I i) (I p)) m (rs3 (gPM S p i) true true (b2i (hb (asked S i) p))) S := by
  unfold F_X6_isAsked
  simp only [xb_xp, xb_as]
  by_cases g : gPM S p i = true
  · have q := gPM_d g
    obtain ⟨m', e, c⟩ := c_askedOf h hs.wr hs.rp q.2.1 q.2.2
    refine OUT.s h c ?_
    rw [mp h hs.wr pl ph il ih, if_pos g, rs3_4 g rfl rfl, os_b h.cf, xb_ok e, c_isIn, xb_xp, xz_ok]
  · refine OUT.q h ?_
    rw [mp h hs.wr pl ph il ih, if_neg g, rs3_1 g]
theorem q_answerOf {p i d : Int} (h : CR sv G S m) (hs : SI t S) (pl : -2147483648 ≤ p) (ph : p < 2147483648) (il : -2147483648 ≤ i) (ih : i < 2147483648) (dl : -2147483648 ≤ d) (dh : d < 2147483648) : OUT sv (F_X6_answerOf sv (I i) (I p) (I d)) m (rs3 (gPM S p i) (gD d) (gND S p i d) (I (ansOf S i p d))) S := by
  unfold F_X6_answerOf
  simp only [xb_xp, xb_as]
  by_cases g : gPM S p i = true
  · have q := gPM_d g
    have hm := h.mt i q.2.1 q.2.2
    by_cases g2 : gD d = true
    · have q2 := gD_d g2
      have e3 : gND S p i d = gN S i d := by unfold gND; rw [g, g2]; rfl
      have e4 : (gD d && hl (ml S 23 (ma S 5 i)) d) = gN S i d := by rw [g2]; rfl
      by_cases g3 : gN S i d = true
      · obtain ⟨m', e, c⟩ := c_askedOf h hs.wr hs.rp q.2.1 q.2.2
        refine OUT.s h c ?_
        have h' := h.sc c
        rw [mp h hs.wr pl ph il ih, if_pos g, xb_need (c_needDay dl dh), if_pos g2, ym2 hm, ov_b hm.now, xb_ok (c_isDate hm.now dl dh), e4, xb_need (c_needState _ _), if_pos g3, rs3_4 g g2 (e3.trans g3), os_b h.cf, xb_ok e, c_isIn, xb_xp, b2ne]
        unfold ansOf
        by_cases a : hb (asked S i) p = true
        · rw [if_pos a, if_pos a, om (h'.mt i q.2.1 q.2.2), c_ansKnown h' hs.wr hs.rp q.2.1 q.2.2 q.1.1 q.1.2 q2.1 q2.2]
        · rw [if_neg a, if_neg a, xp_ap, glm1]
      · refine OUT.q h ?_
        rw [mp h hs.wr pl ph il ih, if_pos g, xb_need (c_needDay dl dh), if_pos g2, ym2 hm, ov_b hm.now, xb_ok (c_isDate hm.now dl dh), e4, xb_need (c_needState _ _), if_neg g3, rs3_3 g g2 (by rw [e3]; exact g3)]
    · refine OUT.q h ?_
      rw [mp h hs.wr pl ph il ih, if_pos g, xb_need (c_needDay dl dh), if_neg g2, rs3_2 g g2]
  · refine OUT.q h ?_
    rw [mp h hs.wr pl ph il ih, if_neg g, rs3_1 g]
end C6
