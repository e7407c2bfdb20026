def fiT (sv j : Nat) (v : Option Nat) (x : Int32) (m : QM) : QM := sfi (sar m (sv + 4) j v) 453 sv x
def CMT {α : Type} (sv j : Nat) (v : Option Nat) (x : Int32) (p : QX α) : Prop := ∀ m, qty m (sv + 4) = (4, 2, 150) → p (fiT sv j v x m) = (p m).map (fun r => (r.1, fiT sv j v x r.2)) ∧ ∀ r, p m = some r → qty r.2 (sv + 4) = (4, 2, 150)
section C25
variable {sv j : Nat} {v : Option Nat} {x : Int32} {α β σ : Type}
theorem CMT.p (a : α) : CMT sv j v x (xp a) := fun m h => ⟨rfl, fun r e => by cases e; exact h⟩
theorem CMT.n : CMT sv j v x (xn : QX α) := fun m h => ⟨rfl, fun r e => by cases e⟩
theorem CMT.b {p : QX α} {f : α → QX β} (h : CMT sv j v x p) (g : ∀ a, CMT sv j v x (f a)) : CMT sv j v x (xb p f) := fun m hm => by
  obtain ⟨h1, h2⟩ := h m hm
  unfold xb
  rw [h1]
  cases e : p m with
  | none => exact ⟨rfl, fun r q => by cases q⟩
  | some r =>
    obtain ⟨r1, r2⟩ := r
    have h3 := h2 _ e
    cases r1 with
    | error n => exact ⟨rfl, fun r q => by cases q; exact h3⟩
    | ok a => exact g a r2 h3
theorem CMT.i {b : Bool} {p q : QX α} (h : CMT sv j v x p) (g : CMT sv j v x q) : CMT sv j v x (if b = true then p else q) := by
  cases b
  · exact g
  · exact h
theorem CMT.l {c : σ → QX Bool} {b : σ → QX σ} (h : ∀ s, CMT sv j v x (c s)) (g : ∀ s, CMT sv j v x (b s)) : ∀ n s, CMT sv j v x (xl n c b s) := by
  intro n
  induction n with
  | zero => exact fun _ => CMT.n
  | succ n ih => exact fun s => CMT.b (h s) fun w => CMT.i (CMT.b (g s) fun s' => ih s') (CMT.p s)
theorem CMT.o {c : Nat} {r : Option Nat} {f : Nat → QX α} (h : ∀ a, CMT sv j v x (f a)) : CMT sv j v x (xo c r f) := fun m hm => by
  cases r with
  | none => exact ⟨rfl, fun r e => by cases e⟩
  | some a =>
    show (if qty m a = (1, c, 0) then f a (fiT sv j v x m) else none) = _ ∧ _
    have e : xo c (some a) f m = if qty m a = (1, c, 0) then f a m else none := rfl
    rw [e]
    by_cases q : qty m a = (1, c, 0)
    · rw [if_pos q, if_pos q]; exact h a m hm
    · rw [if_neg q, if_neg q]; exact ⟨rfl, fun r e => by cases e⟩
theorem CMT.t {t u : Nat} {r : Option Nat} {i : Int32} {f : Nat → Nat → QX α} (h : ∀ a k, (t = 4 ∧ u = 2) ∨ (∀ m, qty m (sv + 4) = (4, 2, 150) → (a ≠ sv + 4 ∨ t ≠ 4) → f a k (fiT sv j v x m) = (f a k m).map (fun r => (r.1, fiT sv j v x r.2)) ∧ ∀ r, f a k m = some r → qty r.2 (sv + 4) = (4, 2, 150))) (hu : ¬ (t = 4 ∧ u = 2)) : CMT sv j v x (xat t u r i f) := fun m hm => by
  cases r with
  | none => exact ⟨rfl, fun r e => by cases e⟩
  | some a =>
    have e : ∀ m : QM, xat t u (some a) i f m = if (qty m a).1 = t ∧ (qty m a).2.1 = u ∧ 0 ≤ i.toInt ∧ i.toInt < (qty m a).2.2 then f a i.toNatClampNeg m else none := fun _ => rfl
    rw [e, e]
    show (if (qty m a).1 = t ∧ (qty m a).2.1 = u ∧ 0 ≤ i.toInt ∧ i.toInt < (qty m a).2.2 then f a i.toNatClampNeg (fiT sv j v x m) else none) = _ ∧ _
    by_cases q : (qty m a).1 = t ∧ (qty m a).2.1 = u ∧ 0 ≤ i.toInt ∧ i.toInt < (qty m a).2.2
    · rw [if_pos q, if_pos q]
      rcases h a i.toNatClampNeg with z | z
      · exact absurd z hu
      · refine z m hm ?_
        by_cases e : a = sv + 4
        · subst e
          rw [hm] at q
          exact Or.inr (fun w => hu ⟨w, q.2.1.symm⟩)
        · exact Or.inl e
    · rw [if_neg q, if_neg q]; exact ⟨rfl, fun r e => by cases e⟩
theorem CMT.gi {c k : Nat} {r : Option Nat} (h : 64 * c + k ≠ 453) : CMT sv j v x (xgi c k r) := CMT.o fun a m hm => by
  refine ⟨?_, fun r e => by cases e; exact hm⟩
  show some (Except.ok (qfi (fiT sv j v x m) (64 * c + k) a), fiT sv j v x m) = _
  rw [show qfi (fiT sv j v x m) (64 * c + k) a = qfi m (64 * c + k) a from fi_n h]; rfl
theorem CMT.gr {c k : Nat} {r : Option Nat} : CMT sv j v x (xgr c k r) := CMT.o fun a m hm => ⟨rfl, fun r e => by cases e; exact hm⟩
theorem sfi_sfi {m : QM} {f g a b : Nat} {y z : Int32} (h : f ≠ g) : sfi (sfi m f a y) g b z = sfi (sfi m g b z) f a y := by
  show (m.1, va_up (va_up m.2.1 f (va_up (m.2.1 f) a y)) g (va_up (va_up m.2.1 f (va_up (m.2.1 f) a y) g) b z), m.2.2) = (m.1, va_up (va_up m.2.1 g (va_up (m.2.1 g) b z)) f (va_up (va_up m.2.1 g (va_up (m.2.1 g) b z) f) a y), m.2.2)
  rw [va_up_diff _ _ (fun q => h q.symm), va_up_diff (m.2.1) (va_up (m.2.1 g) b z) h]
  have : ∀ (F : Nat → Nat → Int32) (p q : Nat → Int32), va_up (va_up F f p) g q = va_up (va_up F g q) f p := fun F p q => by
    funext k
    by_cases e : k = g
    · subst e; rw [va_up_same, va_up_diff _ _ (fun w => h w.symm), va_up_same]
    · rw [va_up_diff _ _ e]
      by_cases e2 : k = f
      · subst e2; rw [va_up_same, va_up_same]
      · rw [va_up_diff _ _ e2, va_up_diff _ _ e2, va_up_diff _ _ e]
  rw [this]
theorem CMT.si {c k : Nat} {r : Option Nat} {y : Int32} (h : 64 * c + k ≠ 453) : CMT sv j v x (xsi c k r y) := CMT.o fun a m hm => by
  refine ⟨?_, fun r e => by cases e; exact hm⟩
  show some (Except.ok (), sfi (fiT sv j v x m) (64 * c + k) a y) = some (Except.ok (), fiT sv j v x (sfi m (64 * c + k) a y))
  have : sfi (fiT sv j v x m) (64 * c + k) a y = fiT sv j v x (sfi m (64 * c + k) a y) := sfi_sfi (m := sar m (sv + 4) j v) (fun q => h q.symm)
  rw [this]
theorem CMT.ai {u : Nat} {r : Option Nat} {i : Int32} : CMT sv j v x (xai u r i) := CMT.t (fun a k => Or.inr fun m hm _ => ⟨rfl, fun r e => by cases e; exact hm⟩) (fun q => absurd q.1 (by decide))
theorem CMT.sai {r : Option Nat} {i y : Int32} : CMT sv j v x (xsai r i y) := CMT.t (fun a k => Or.inr fun m hm _ => ⟨rfl, fun r e => by cases e; exact hm⟩) (fun q => absurd q.1 (by decide))
theorem CMT.ar {c : Nat} {r : Option Nat} {i : Int32} (hc : c ≠ 2) : CMT sv j v x (xar c r i) := CMT.t (fun a k => Or.inr fun m hm q => by
    refine ⟨?_, fun r e => by cases e; exact hm⟩
    show some (Except.ok (qar (fiT sv j v x m) a k), fiT sv j v x m) = some (Except.ok (qar m a k), fiT sv j v x m)
    rw [show qar (fiT sv j v x m) a k = qar m a k from congrFun (va_up_diff _ _ (by rcases q with e | e; exact e; exact absurd rfl e)) k]) (fun q => hc q.2)
theorem CMT.z (a : Int32) : CMT sv j v x (xz a) := fun m hm => by
  show (if a = 0 ∨ a = 1 then some (Except.ok a, fiT sv j v x m) else none) = Option.map _ (if a = 0 ∨ a = 1 then some (Except.ok a, m) else none) ∧ ∀ r, (if a = 0 ∨ a = 1 then some (Except.ok a, m) else none) = some r → _
  by_cases h : a = 0 ∨ a = 1
  · rw [if_pos h, if_pos h]; exact ⟨rfl, fun r q => by cases q; exact hm⟩
  · rw [if_neg h, if_neg h]; exact ⟨rfl, fun r q => by cases q⟩
theorem CMT.isIn (a b : Int32) : CMT sv j v x (F_X6_isIn a b) := by
  unfold F_X6_isIn
  repeat' with_reducible first
    | exact CMT.p _
    | exact CMT.z _
    | refine CMT.b ?_ (fun _ => ?_)
theorem CMT.versionOf (q : Nat) (p : Int32) : CMT sv j v x (F_X0_versionOf q p) := by
  unfold F_X0_versionOf
  repeat' with_reducible first
    | exact CMT.p _
    | exact CMT.gr
    | exact CMT.gi (by decide)
    | exact CMT.ar (by decide)
    | refine CMT.b ?_ (fun _ => ?_)
    | refine CMT.i ?_ ?_
theorem CMT.versionThere (q : Nat) (p : Int32) : CMT sv j v x (F_X0_versionThere q p) := by
  unfold F_X0_versionThere
  repeat' with_reducible first
    | exact CMT.p _
    | exact CMT.gr
    | exact CMT.gi (by decide)
    | exact CMT.ar (by decide)
    | exact CMT.isIn _ _
    | refine CMT.o (fun _ => CMT.versionOf _ _)
    | refine CMT.b ?_ (fun _ => ?_)
    | refine CMT.i ?_ ?_
theorem CMT.forget (q : Nat) (p : Int32) : CMT sv j v x (F_X2_forget q p) := by
  unfold F_X2_forget
  repeat' with_reducible first
    | exact CMT.p _
    | exact CMT.gr
    | exact CMT.ai
    | exact CMT.sai
    | exact CMT.si (by decide)
    | refine CMT.b ?_ (fun _ => ?_)
    | refine CMT.i ?_ ?_
theorem CMT.mark (q : Nat) (p : Int32) (mt : Option Nat) : CMT sv j v x (F_X6_markEntry q p mt) := by
  unfold F_X6_markEntry
  repeat' with_reducible first
    | exact CMT.p _
    | exact CMT.gr
    | exact CMT.gi (by decide)
    | exact CMT.ar (by decide)
    | exact CMT.ai
    | exact CMT.sai
    | exact CMT.si (by decide)
    | refine CMT.o (fun _ => CMT.versionThere _ _)
    | refine CMT.o (fun _ => CMT.forget _ _)
    | refine CMT.b ?_ (fun _ => ?_)
    | refine CMT.i ?_ ?_
    | refine CMT.l (fun _ => ?_) (fun _ => ?_) _ _
theorem c_markBefore {m W' : QM} {q T : Nat} {k : Int32} {p : Int32} {mt : Option Nat} (ht : qty m (sv + 4) = (4, 2, 150)) (hk : qfi m 453 sv = k) (e : F_X6_markEntry q p mt (fiT sv j (some T) x m) = some (.ok (), W')) : ∃ m', F_X6_markEntry q p mt m = some (.ok (), m') ∧ fiT sv j (some T) x m' = W' ∧ qfi m' 453 sv = k := by
  obtain ⟨h1, h2⟩ := CMT.mark (sv := sv) (j := j) (v := some T) (x := x) q p mt m ht
  rw [e] at h1
  cases e1 : F_X6_markEntry q p mt m with
  | none => rw [e1] at h1; cases h1
  | some r =>
    obtain ⟨r1, r2⟩ := r
    rw [e1] at h1
    have h1 : some (Except.ok (), W') = some (r1, fiT sv j (some T) x r2) := h1
    injection h1 with h1
    injection h1 with ha hb
    subst ha
    refine ⟨r2, rfl, hb.symm, ?_⟩
    have sf : fiT sv j (qar m (sv + 4) j) k m = m := by
      subst hk
      have r1 : va_up (qar m) (sv + 4) (va_up (qar m (sv + 4)) j (qar m (sv + 4) j)) = qar m := by
        funext b
        by_cases z : b = sv + 4
        · subst z
          rw [va_up_same]
          funext y
          by_cases w : y = j
          · subst w; rw [va_up_same]
          · rw [va_up_diff _ _ w]
        · rw [va_up_diff _ _ z]
      have r2 : va_up (qfi m) 453 (va_up (qfi m 453) sv (qfi m 453 sv)) = qfi m := by
        funext f
        by_cases z : f = 453
        · subst z
          rw [va_up_same]
          funext y
          by_cases w : y = sv
          · subst w; rw [va_up_same]
          · rw [va_up_diff _ _ w]
        · rw [va_up_diff _ _ z]
      show (m.1, va_up (qfi m) 453 (va_up (qfi m 453) sv (qfi m 453 sv)), m.2.2.1, m.2.2.2.1, m.2.2.2.2.1, m.2.2.2.2.2.1, va_up (qar m) (sv + 4) (va_up (qar m (sv + 4)) j (qar m (sv + 4) j)), m.2.2.2.2.2.2.2) = m
      rw [r1, r2]; rfl
    obtain ⟨g1, _⟩ := CMT.mark (sv := sv) (j := j) (v := qar m (sv + 4) j) (x := k) q p mt m ht
    rw [sf, e1] at g1
    have g1 : some (Except.ok (), r2) = some (Except.ok (), fiT sv j (qar m (sv + 4) j) k r2) := g1
    injection g1 with g1
    injection g1 with _ gb
    rw [gb]
    exact fi_s
end C25
