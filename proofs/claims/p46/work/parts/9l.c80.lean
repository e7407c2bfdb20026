/-! the law's own methods that ask the server -/
def ec (e : Nat) : Int32 := if e = 1 then -1000001 else if e = 2 then -1000002 else -1000003
def lres : Except Nat Int32 → Int32
  | .ok v => v
  | .error e => ec e
/-- a question; a change, at a cost -/
def lqe (f : MS → Except Nat Int32) : LX Int32 := fun L => some (.ok (lres (f (zS L))), L)
def lst (L : LSt) (S : MS) (δ : Int) : LSt := (S, L.2.1, L.2.2.1, L.2.2.2.1, zT L + δ)
def lu (δ : Int) (f : MS → Except Nat Int32) (g : MS → MS) : LX Int32 := fun L => if zT L + 2 ≤ 600 then some (match f (zS L) with
  | .ok v => (.ok v, lst L (g (zS L)) δ)
  | .error e => (.ok (ec e), L)) else none
def mpA : Nat → Option Int32 := fun n => if n = 1 then some (-1000001) else if n = 2 then some (-1000002) else if n = 3 then some (-1000003) else none
def mpB : Nat → Option Int32 := fun n => if n = 1 then some (-1000001) else if n = 2 then some (-1000002) else none
def mpC : Nat → Option Int32 := fun n => if n = 1 then some (-1000001) else if n = 3 then some (-1000003) else none
def mpD : Nat → Option Int32 := fun n => if n = 1 then some (-1000001) else none
def mpE : Nat → Option Int32 := fun n => if n = 2 then some (-1000002) else none
def PW0 (sv : Nat) (x : QX Int32) (Z : Int32 → Prop) (mp : Nat → Option Int32) (mm : QM) (R : RX) : Prop := qty mm sv = (1, 7, 0) ∧ ∃ r m1, x mm = some (r, m1) ∧ (∀ v, r = .ok v → Z v ∧ R (.ok (some (.int v))) m1) ∧ (∀ e0, r = .error e0 → ∃ cd, mp e0 = some cd ∧ ∀ n, qtop m1 ≤ n → R (.ok (some (.int cd))) (stop m1 n))
theorem mA {a b c : Bool} {v : Int32} : ∀ e, rs3 a b c v = .error e → mpA e = some (ec e) := by
  intro e h
  cases a <;> cases b <;> cases c <;> cases h <;> rfl
theorem mB {a b : Bool} {v : Int32} : ∀ e, rs3 a b true v = .error e → mpB e = some (ec e) := by
  intro e h
  cases a <;> cases b <;> cases h <;> rfl
theorem mC {a c : Bool} {v : Int32} : ∀ e, rs3 a true c v = .error e → mpC e = some (ec e) := by
  intro e h
  cases a <;> cases c <;> cases h <;> rfl
theorem mD {a : Bool} {v : Int32} : ∀ e, rs3 a true true v = .error e → mpD e = some (ec e) := by
  intro e h
  cases a <;> cases h <;> rfl
theorem rs3_v {a b c : Bool} {v w : Int32} (h : rs3 a b c v = .ok w) : w = v := by
  cases a <;> cases b <;> cases c <;> cases h <;> rfl
theorem zb2 {b : Bool} {w : Int32} (h : w = b2i b) : w = 0 ∨ w = 1 := by
  subst h; cases b
  · exact Or.inl rfl
  · exact Or.inr rfl
section C80
variable {sv : Nat} {L : LSt} {mm : QM} {R : RX} {x : QX Int32} {f : MS → Except Nat Int32} {g : MS → MS} {Z : Int32 → Prop} {mp : Nat → Option Int32} {δ : Int}
theorem lw_q (hL : LR sv L mm) (hq : ∀ G, CR sv G (zS L) mm → OUT sv x mm (f (zS L)) (zS L)) (hm : ∀ e, f (zS L) = .error e → mp e = some (ec e)) (hZ : ∀ v, f (zS L) = .ok v → Z v) (h : lwp (lqe f) (fun v L' => ∀ m', LR sv L' m' → R (.ok (some (.int v))) m') (fun _ _ => False) L) : PW0 sv x Z mp mm R := by
  obtain ⟨G, hC⟩ := hL.1
  obtain ⟨G', m', e, hC', hk⟩ := hq G hC
  have hR : LR sv L m' := hk.lr hL ⟨G', hC'⟩ hL.2.1 ⟨rfl, rfl, rfl⟩
  have h' : ∀ m', LR sv L m' → R (.ok (some (.int (lres (f (zS L)))))) m' := h
  refine ⟨hC.cf.ty, _, m', e, fun v hv => ⟨hZ v hv, ?_⟩, fun e0 he => ⟨ec e0, hm e0 he, fun n hn => ?_⟩⟩
  · rw [hv] at h'; exact h' m' hR
  · rw [he] at h'; exact h' _ (hR.grow (GROW.stopr hn))
theorem lw_u {a b c : Bool} {v : Int32} (hL : LR sv L mm) (hf : f (zS L) = rs3 a b c v) (hq : ∀ G, CR sv G (zS L) mm → zT L + 2 ≤ 600 → OUTR sv x mm a b c v (g (zS L)) (zS L)) (hs : zT L + 2 ≤ 600 → a = true → b = true → c = true → SI (zT L + δ) (g (zS L))) (hm : ∀ e, rs3 a b c v = .error e → mp e = some (ec e)) (hZ : Z v) (h : lwp (lu δ f g) (fun v L' => ∀ m', LR sv L' m' → R (.ok (some (.int v))) m') (fun _ _ => False) L) : PW0 sv x Z mp mm R := by
  obtain ⟨G, hC⟩ := hL.1
  unfold lwp lu at h
  by_cases ht : zT L + 2 ≤ 600
  case neg => rw [if_neg ht] at h; exact h.elim
  rw [if_pos ht, hf] at h
  have ho := hq G hC ht
  unfold OUTR at ho
  by_cases gg : (a && b && c) = true
  · rw [if_pos gg] at ho
    simp only [Bool.and_eq_true] at gg
    obtain ⟨G', m', e, hC', hk⟩ := ho
    rw [rs3_4 gg.1.1 gg.1.2 gg.2] at h
    exact ⟨hC.cf.ty, _, m', e, fun w hw => (by cases hw; exact ⟨hZ, h m' (hk.lr (L' := lst L (g (zS L)) δ) hL ⟨G', hC'⟩ (hs ht gg.1.1 gg.1.2 gg.2) ⟨rfl, rfl, rfl⟩)⟩), fun e0 he => (by cases he)⟩
  · rw [if_neg gg] at ho
    obtain ⟨G', m', e, hC', hk⟩ := ho
    have hR : LR sv L m' := hk.lr hL ⟨G', hC'⟩ hL.2.1 ⟨rfl, rfl, rfl⟩
    refine ⟨hC.cf.ty, _, m', e, fun w hw => ?_, fun e0 he => ⟨ec e0, hm e0 he, fun n hn => ?_⟩⟩
    · exfalso
      have : rs3 a b c v = .ok w := hw
      revert this gg
      cases a <;> cases b <;> cases c <;> simp [rs3]
    · rw [he] at h; exact h _ (hR.grow (GROW.stopr hn))
end C80
