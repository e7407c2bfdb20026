/-! Pieces of code as computations: an expression (XE) puts its value on the stack, a condition (CE) goes to one of two places, a block (SB) comes to the method's end, a statement (ST) goes on behind itself with the locals upd. -/
abbrev pI (v : Int32) : List Value := [.int v]
abbrev pL (v : Int64) : List Value := [.long v]
abbrev pR (r : Option Nat) : List Value := [va_rf r]
abbrev pU (_ : Unit) : List Value := []
theorem wI (v : Int32) : scat (pI v) ≤ 1 := Nat.le_refl 1
theorem wL (v : Int64) : scat (pL v) ≤ 2 := Nat.le_refl 2
theorem wR (r : Option Nat) : scat (pR r) ≤ 1 := by cases r <;> exact Nat.le_refl 1
theorem scat_app (x y : List Value) : scat (x ++ y) = scat x + scat y := by simp [scat]
theorem scat_le {x st : List Value} {d w : Nat} (h : scat st ≤ d) (hw : scat x ≤ w) : scat (x ++ st) ≤ d + w := by rw [scat_app]; omega
section R7
variable {k : QC} {T : Nat → QM → Prop} {α β γ δ ρ σ : Type} {env env' : List (Nat × Value)} {cc : ByteArray} {own : String}
def XE (k : QC) (T : Nat → QM → Prop) (push : α → List Value) (env : List (Nat × Value)) (d i j kc ks' : Nat) (x : QX α) : Prop :=
  ∀ (st : List Value) (mm : QM) (a b : Nat), scat st ≤ d → a + kc ≤ (kR k).cells → b + ks' ≤ (kR k).slots → qwp x (fun v m' => GG k env (push v ++ st) m' j (a + kc) (b + ks')) T mm → GG k env st mm i a b
def CE (k : QC) (T : Nat → QM → Prop) (env : List (Nat × Value)) (d i jT jF kc ks' : Nat) (x : QX Bool) : Prop :=
  ∀ (st : List Value) (mm : QM) (a b : Nat), scat st ≤ d → a + kc ≤ (kR k).cells → b + ks' ≤ (kR k).slots → qwp x (fun v m' => GG k env st m' (if v = true then jT else jF) (a + kc) (b + ks')) T mm → GG k env st mm i a b
def SB (k : QC) (T : Nat → QM → Prop) (RET : ρ → QM → Prop) (env : List (Nat × Value)) (i kc ks' : Nat) (x : QX ρ) : Prop :=
  ∀ (mm : QM) (a b : Nat), a + kc ≤ (kR k).cells → b + ks' ≤ (kR k).slots → qwp x RET T mm → GG k env [] mm i a b
def ST (k : QC) (T : Nat → QM → Prop) (upd : σ → List (Nat × Value)) (env : List (Nat × Value)) (i j kc ks' : Nat) (x : QX σ) : Prop :=
  ∀ (mm : QM) (a b : Nat), a + kc ≤ (kR k).cells → b + ks' ≤ (kR k).slots → qwp x (fun s m' => GG k (upd s) [] m' j (a + kc) (b + ks')) T mm → GG k env [] mm i a b
def OP1 (k : QC) (T : Nat → QM → Prop) (pA : α → List Value) (pB : β → List Value) (env : List (Nat × Value)) (d i j kc ks' : Nat) (f : α → QX β) : Prop :=
  ∀ (v : α) (st : List Value) (mm : QM) (a b : Nat), scat st ≤ d → a + kc ≤ (kR k).cells → b + ks' ≤ (kR k).slots → qwp (f v) (fun w m' => GG k env (pB w ++ st) m' j (a + kc) (b + ks')) T mm → GG k env (pA v ++ st) mm i a b
def OP2 (k : QC) (T : Nat → QM → Prop) (pA : α → List Value) (pB : β → List Value) (pC : γ → List Value) (env : List (Nat × Value)) (d i j kc ks' : Nat) (f : α → β → QX γ) : Prop :=
  ∀ (v : α) (w : β) (st : List Value) (mm : QM) (a b : Nat), scat st ≤ d → a + kc ≤ (kR k).cells → b + ks' ≤ (kR k).slots → qwp (f v w) (fun z m' => GG k env (pC z ++ st) m' j (a + kc) (b + ks')) T mm → GG k env (pB w ++ (pA v ++ st)) mm i a b
theorem GG_cs {st : List Value} {mm : QM} {pc a b a' b' : Nat} (h : GG k env st mm pc a b) (ha : a = a') (hb : b = b') : GG k env st mm pc a' b' := by subst ha; subst hb; exact h
theorem XE_1 {A0 B : Type} {p0 : A0 → List Value} {pB : B → List Value} {x0 : QX A0} {f : A0 → QX B} {d i0 i1 i2 c0 s0 c1 s1 : Nat}  (h0 : XE k T p0 env (d) i0 i1 c0 s0 x0) (hop : ∀ (v0 : A0) (st : List Value) (mm : QM) (a b : Nat), scat st ≤ d → a + c1 ≤ (kR k).cells → b + s1 ≤ (kR k).slots → qwp (f v0) (fun z m' => GG k env (pB z ++ st) m' i2 (a + c1) (b + s1)) T mm → GG k env (p0 v0 ++ st) mm i1 a b) : XE k T pB env d i0 i2 (c0 + c1) (s0 + s1) (xb x0 fun v0 => f v0) := by
  intro st mm a b hd hc hs h
  refine h0 st mm (a) (b) (by exact hd) (by omega) (by omega) (qwp_mono (qwp_xb h) (fun v0 m1 q1 => ?_) (fun _ _ q => q))
  exact hop v0 st m1 (a + c0) (b + s0) hd (by omega) (by omega) (qwp_mono q1 (fun z m' g => GG_cs g (by omega) (by omega)) (fun _ _ q => q))
theorem XE_2 {A0 A1 B : Type} {p0 : A0 → List Value} {p1 : A1 → List Value} {pB : B → List Value} {x0 : QX A0} {x1 : QX A1} {f : A0 → A1 → QX B} {W0 d i0 i1 i2 i3 c0 s0 c1 s1 c2 s2 : Nat} (w0 : ∀ v, scat (p0 v) ≤ W0) (h0 : XE k T p0 env (d) i0 i1 c0 s0 x0) (h1 : XE k T p1 env (d + W0) i1 i2 c1 s1 x1) (hop : ∀ (v0 : A0) (v1 : A1) (st : List Value) (mm : QM) (a b : Nat), scat st ≤ d → a + c2 ≤ (kR k).cells → b + s2 ≤ (kR k).slots → qwp (f v0 v1) (fun z m' => GG k env (pB z ++ st) m' i3 (a + c2) (b + s2)) T mm → GG k env (p1 v1 ++ (p0 v0 ++ st)) mm i2 a b) : XE k T pB env d i0 i3 (c0 + c1 + c2) (s0 + s1 + s2) (xb x0 fun v0 => xb x1 fun v1 => f v0 v1) := by
  intro st mm a b hd hc hs h
  refine h0 st mm (a) (b) (by exact hd) (by omega) (by omega) (qwp_mono (qwp_xb h) (fun v0 m1 q1 => ?_) (fun _ _ q => q))
  refine h1 (p0 v0 ++ st) m1 (a + c0) (b + s0) (by exact scat_le (hd) (w0 v0)) (by omega) (by omega) (qwp_mono (qwp_xb q1) (fun v1 m2 q2 => ?_) (fun _ _ q => q))
  exact hop v0 v1 st m2 (a + c0 + c1) (b + s0 + s1) hd (by omega) (by omega) (qwp_mono q2 (fun z m' g => GG_cs g (by omega) (by omega)) (fun _ _ q => q))
theorem XE_3 {A0 A1 A2 B : Type} {p0 : A0 → List Value} {p1 : A1 → List Value} {p2 : A2 → List Value} {pB : B → List Value} {x0 : QX A0} {x1 : QX A1} {x2 : QX A2} {f : A0 → A1 → A2 → QX B} {W0 W1 d i0 i1 i2 i3 i4 c0 s0 c1 s1 c2 s2 c3 s3 : Nat} (w0 : ∀ v, scat (p0 v) ≤ W0) (w1 : ∀ v, scat (p1 v) ≤ W1) (h0 : XE k T p0 env (d) i0 i1 c0 s0 x0) (h1 : XE k T p1 env (d + W0) i1 i2 c1 s1 x1) (h2 : XE k T p2 env (d + W0 + W1) i2 i3 c2 s2 x2) (hop : ∀ (v0 : A0) (v1 : A1) (v2 : A2) (st : List Value) (mm : QM) (a b : Nat), scat st ≤ d → a + c3 ≤ (kR k).cells → b + s3 ≤ (kR k).slots → qwp (f v0 v1 v2) (fun z m' => GG k env (pB z ++ st) m' i4 (a + c3) (b + s3)) T mm → GG k env (p2 v2 ++ (p1 v1 ++ (p0 v0 ++ st))) mm i3 a b) : XE k T pB env d i0 i4 (c0 + c1 + c2 + c3) (s0 + s1 + s2 + s3) (xb x0 fun v0 => xb x1 fun v1 => xb x2 fun v2 => f v0 v1 v2) := by
  intro st mm a b hd hc hs h
  refine h0 st mm (a) (b) (by exact hd) (by omega) (by omega) (qwp_mono (qwp_xb h) (fun v0 m1 q1 => ?_) (fun _ _ q => q))
  refine h1 (p0 v0 ++ st) m1 (a + c0) (b + s0) (by exact scat_le (hd) (w0 v0)) (by omega) (by omega) (qwp_mono (qwp_xb q1) (fun v1 m2 q2 => ?_) (fun _ _ q => q))
  refine h2 (p1 v1 ++ (p0 v0 ++ st)) m2 (a + c0 + c1) (b + s0 + s1) (by exact scat_le (scat_le (hd) (w0 v0)) (w1 v1)) (by omega) (by omega) (qwp_mono (qwp_xb q2) (fun v2 m3 q3 => ?_) (fun _ _ q => q))
  exact hop v0 v1 v2 st m3 (a + c0 + c1 + c2) (b + s0 + s1 + s2) hd (by omega) (by omega) (qwp_mono q3 (fun z m' g => GG_cs g (by omega) (by omega)) (fun _ _ q => q))
theorem XE_4 {A0 A1 A2 A3 B : Type} {p0 : A0 → List Value} {p1 : A1 → List Value} {p2 : A2 → List Value} {p3 : A3 → List Value} {pB : B → List Value} {x0 : QX A0} {x1 : QX A1} {x2 : QX A2} {x3 : QX A3} {f : A0 → A1 → A2 → A3 → QX B} {W0 W1 W2 d i0 i1 i2 i3 i4 i5 c0 s0 c1 s1 c2 s2 c3 s3 c4 s4 : Nat} (w0 : ∀ v, scat (p0 v) ≤ W0) (w1 : ∀ v, scat (p1 v) ≤ W1) (w2 : ∀ v, scat (p2 v) ≤ W2) (h0 : XE k T p0 env (d) i0 i1 c0 s0 x0) (h1 : XE k T p1 env (d + W0) i1 i2 c1 s1 x1) (h2 : XE k T p2 env (d + W0 + W1) i2 i3 c2 s2 x2) (h3 : XE k T p3 env (d + W0 + W1 + W2) i3 i4 c3 s3 x3) (hop : ∀ (v0 : A0) (v1 : A1) (v2 : A2) (v3 : A3) (st : List Value) (mm : QM) (a b : Nat), scat st ≤ d → a + c4 ≤ (kR k).cells → b + s4 ≤ (kR k).slots → qwp (f v0 v1 v2 v3) (fun z m' => GG k env (pB z ++ st) m' i5 (a + c4) (b + s4)) T mm → GG k env (p3 v3 ++ (p2 v2 ++ (p1 v1 ++ (p0 v0 ++ st)))) mm i4 a b) : XE k T pB env d i0 i5 (c0 + c1 + c2 + c3 + c4) (s0 + s1 + s2 + s3 + s4) (xb x0 fun v0 => xb x1 fun v1 => xb x2 fun v2 => xb x3 fun v3 => f v0 v1 v2 v3) := by
  intro st mm a b hd hc hs h
  refine h0 st mm (a) (b) (by exact hd) (by omega) (by omega) (qwp_mono (qwp_xb h) (fun v0 m1 q1 => ?_) (fun _ _ q => q))
  refine h1 (p0 v0 ++ st) m1 (a + c0) (b + s0) (by exact scat_le (hd) (w0 v0)) (by omega) (by omega) (qwp_mono (qwp_xb q1) (fun v1 m2 q2 => ?_) (fun _ _ q => q))
  refine h2 (p1 v1 ++ (p0 v0 ++ st)) m2 (a + c0 + c1) (b + s0 + s1) (by exact scat_le (scat_le (hd) (w0 v0)) (w1 v1)) (by omega) (by omega) (qwp_mono (qwp_xb q2) (fun v2 m3 q3 => ?_) (fun _ _ q => q))
  refine h3 (p2 v2 ++ (p1 v1 ++ (p0 v0 ++ st))) m3 (a + c0 + c1 + c2) (b + s0 + s1 + s2) (by exact scat_le (scat_le (scat_le (hd) (w0 v0)) (w1 v1)) (w2 v2)) (by omega) (by omega) (qwp_mono (qwp_xb q3) (fun v3 m4 q4 => ?_) (fun _ _ q => q))
  exact hop v0 v1 v2 v3 st m4 (a + c0 + c1 + c2 + c3) (b + s0 + s1 + s2 + s3) hd (by omega) (by omega) (qwp_mono q4 (fun z m' g => GG_cs g (by omega) (by omega)) (fun _ _ q => q))
theorem XE_5 {A0 A1 A2 A3 A4 B : Type} {p0 : A0 → List Value} {p1 : A1 → List Value} {p2 : A2 → List Value} {p3 : A3 → List Value} {p4 : A4 → List Value} {pB : B → List Value} {x0 : QX A0} {x1 : QX A1} {x2 : QX A2} {x3 : QX A3} {x4 : QX A4} {f : A0 → A1 → A2 → A3 → A4 → QX B} {W0 W1 W2 W3 d i0 i1 i2 i3 i4 i5 i6 c0 s0 c1 s1 c2 s2 c3 s3 c4 s4 c5 s5 : Nat} (w0 : ∀ v, scat (p0 v) ≤ W0) (w1 : ∀ v, scat (p1 v) ≤ W1) (w2 : ∀ v, scat (p2 v) ≤ W2) (w3 : ∀ v, scat (p3 v) ≤ W3) (h0 : XE k T p0 env (d) i0 i1 c0 s0 x0) (h1 : XE k T p1 env (d + W0) i1 i2 c1 s1 x1) (h2 : XE k T p2 env (d + W0 + W1) i2 i3 c2 s2 x2) (h3 : XE k T p3 env (d + W0 + W1 + W2) i3 i4 c3 s3 x3) (h4 : XE k T p4 env (d + W0 + W1 + W2 + W3) i4 i5 c4 s4 x4) (hop : ∀ (v0 : A0) (v1 : A1) (v2 : A2) (v3 : A3) (v4 : A4) (st : List Value) (mm : QM) (a b : Nat), scat st ≤ d → a + c5 ≤ (kR k).cells → b + s5 ≤ (kR k).slots → qwp (f v0 v1 v2 v3 v4) (fun z m' => GG k env (pB z ++ st) m' i6 (a + c5) (b + s5)) T mm → GG k env (p4 v4 ++ (p3 v3 ++ (p2 v2 ++ (p1 v1 ++ (p0 v0 ++ st))))) mm i5 a b) : XE k T pB env d i0 i6 (c0 + c1 + c2 + c3 + c4 + c5) (s0 + s1 + s2 + s3 + s4 + s5) (xb x0 fun v0 => xb x1 fun v1 => xb x2 fun v2 => xb x3 fun v3 => xb x4 fun v4 => f v0 v1 v2 v3 v4) := by
  intro st mm a b hd hc hs h
  refine h0 st mm (a) (b) (by exact hd) (by omega) (by omega) (qwp_mono (qwp_xb h) (fun v0 m1 q1 => ?_) (fun _ _ q => q))
  refine h1 (p0 v0 ++ st) m1 (a + c0) (b + s0) (by exact scat_le (hd) (w0 v0)) (by omega) (by omega) (qwp_mono (qwp_xb q1) (fun v1 m2 q2 => ?_) (fun _ _ q => q))
  refine h2 (p1 v1 ++ (p0 v0 ++ st)) m2 (a + c0 + c1) (b + s0 + s1) (by exact scat_le (scat_le (hd) (w0 v0)) (w1 v1)) (by omega) (by omega) (qwp_mono (qwp_xb q2) (fun v2 m3 q3 => ?_) (fun _ _ q => q))
  refine h3 (p2 v2 ++ (p1 v1 ++ (p0 v0 ++ st))) m3 (a + c0 + c1 + c2) (b + s0 + s1 + s2) (by exact scat_le (scat_le (scat_le (hd) (w0 v0)) (w1 v1)) (w2 v2)) (by omega) (by omega) (qwp_mono (qwp_xb q3) (fun v3 m4 q4 => ?_) (fun _ _ q => q))
  refine h4 (p3 v3 ++ (p2 v2 ++ (p1 v1 ++ (p0 v0 ++ st)))) m4 (a + c0 + c1 + c2 + c3) (b + s0 + s1 + s2 + s3) (by exact scat_le (scat_le (scat_le (scat_le (hd) (w0 v0)) (w1 v1)) (w2 v2)) (w3 v3)) (by omega) (by omega) (qwp_mono (qwp_xb q4) (fun v4 m5 q5 => ?_) (fun _ _ q => q))
  exact hop v0 v1 v2 v3 v4 st m5 (a + c0 + c1 + c2 + c3 + c4) (b + s0 + s1 + s2 + s3 + s4) hd (by omega) (by omega) (qwp_mono q5 (fun z m' g => GG_cs g (by omega) (by omega)) (fun _ _ q => q))
theorem XE_6 {A0 A1 A2 A3 A4 A5 B : Type} {p0 : A0 → List Value} {p1 : A1 → List Value} {p2 : A2 → List Value} {p3 : A3 → List Value} {p4 : A4 → List Value} {p5 : A5 → List Value} {pB : B → List Value} {x0 : QX A0} {x1 : QX A1} {x2 : QX A2} {x3 : QX A3} {x4 : QX A4} {x5 : QX A5} {f : A0 → A1 → A2 → A3 → A4 → A5 → QX B} {W0 W1 W2 W3 W4 d i0 i1 i2 i3 i4 i5 i6 i7 c0 s0 c1 s1 c2 s2 c3 s3 c4 s4 c5 s5 c6 s6 : Nat} (w0 : ∀ v, scat (p0 v) ≤ W0) (w1 : ∀ v, scat (p1 v) ≤ W1) (w2 : ∀ v, scat (p2 v) ≤ W2) (w3 : ∀ v, scat (p3 v) ≤ W3) (w4 : ∀ v, scat (p4 v) ≤ W4) (h0 : XE k T p0 env (d) i0 i1 c0 s0 x0) (h1 : XE k T p1 env (d + W0) i1 i2 c1 s1 x1) (h2 : XE k T p2 env (d + W0 + W1) i2 i3 c2 s2 x2) (h3 : XE k T p3 env (d + W0 + W1 + W2) i3 i4 c3 s3 x3) (h4 : XE k T p4 env (d + W0 + W1 + W2 + W3) i4 i5 c4 s4 x4) (h5 : XE k T p5 env (d + W0 + W1 + W2 + W3 + W4) i5 i6 c5 s5 x5) (hop : ∀ (v0 : A0) (v1 : A1) (v2 : A2) (v3 : A3) (v4 : A4) (v5 : A5) (st : List Value) (mm : QM) (a b : Nat), scat st ≤ d → a + c6 ≤ (kR k).cells → b + s6 ≤ (kR k).slots → qwp (f v0 v1 v2 v3 v4 v5) (fun z m' => GG k env (pB z ++ st) m' i7 (a + c6) (b + s6)) T mm → GG k env (p5 v5 ++ (p4 v4 ++ (p3 v3 ++ (p2 v2 ++ (p1 v1 ++ (p0 v0 ++ st)))))) mm i6 a b) : XE k T pB env d i0 i7 (c0 + c1 + c2 + c3 + c4 + c5 + c6) (s0 + s1 + s2 + s3 + s4 + s5 + s6) (xb x0 fun v0 => xb x1 fun v1 => xb x2 fun v2 => xb x3 fun v3 => xb x4 fun v4 => xb x5 fun v5 => f v0 v1 v2 v3 v4 v5) := by
  intro st mm a b hd hc hs h
  refine h0 st mm (a) (b) (by exact hd) (by omega) (by omega) (qwp_mono (qwp_xb h) (fun v0 m1 q1 => ?_) (fun _ _ q => q))
  refine h1 (p0 v0 ++ st) m1 (a + c0) (b + s0) (by exact scat_le (hd) (w0 v0)) (by omega) (by omega) (qwp_mono (qwp_xb q1) (fun v1 m2 q2 => ?_) (fun _ _ q => q))
  refine h2 (p1 v1 ++ (p0 v0 ++ st)) m2 (a + c0 + c1) (b + s0 + s1) (by exact scat_le (scat_le (hd) (w0 v0)) (w1 v1)) (by omega) (by omega) (qwp_mono (qwp_xb q2) (fun v2 m3 q3 => ?_) (fun _ _ q => q))
  refine h3 (p2 v2 ++ (p1 v1 ++ (p0 v0 ++ st))) m3 (a + c0 + c1 + c2) (b + s0 + s1 + s2) (by exact scat_le (scat_le (scat_le (hd) (w0 v0)) (w1 v1)) (w2 v2)) (by omega) (by omega) (qwp_mono (qwp_xb q3) (fun v3 m4 q4 => ?_) (fun _ _ q => q))
  refine h4 (p3 v3 ++ (p2 v2 ++ (p1 v1 ++ (p0 v0 ++ st)))) m4 (a + c0 + c1 + c2 + c3) (b + s0 + s1 + s2 + s3) (by exact scat_le (scat_le (scat_le (scat_le (hd) (w0 v0)) (w1 v1)) (w2 v2)) (w3 v3)) (by omega) (by omega) (qwp_mono (qwp_xb q4) (fun v4 m5 q5 => ?_) (fun _ _ q => q))
  refine h5 (p4 v4 ++ (p3 v3 ++ (p2 v2 ++ (p1 v1 ++ (p0 v0 ++ st))))) m5 (a + c0 + c1 + c2 + c3 + c4) (b + s0 + s1 + s2 + s3 + s4) (by exact scat_le (scat_le (scat_le (scat_le (scat_le (hd) (w0 v0)) (w1 v1)) (w2 v2)) (w3 v3)) (w4 v4)) (by omega) (by omega) (qwp_mono (qwp_xb q5) (fun v5 m6 q6 => ?_) (fun _ _ q => q))
  exact hop v0 v1 v2 v3 v4 v5 st m6 (a + c0 + c1 + c2 + c3 + c4 + c5) (b + s0 + s1 + s2 + s3 + s4 + s5) hd (by omega) (by omega) (qwp_mono q6 (fun z m' g => GG_cs g (by omega) (by omega)) (fun _ _ q => q))
theorem XE_pure {pA : α → List Value} {d i j : Nat} {v : α} (h : ∀ (st : List Value) (mm : QM) (a b : Nat), GG k env (pA v ++ st) mm j a b → GG k env st mm i a b) : XE k T pA env d i j 0 0 (xp v) := fun st mm a b _ _ _ q => h st mm a b q
theorem XE_const {d i j : Nat} {x : QX Int32} (h : XE k T pI env d i j 0 0 x) : XE k T pI env d i j 0 0 x := h
/- conditions -/
theorem CE_2 {A0 A1 : Type} {p0 : A0 → List Value} {p1 : A1 → List Value} {x0 : QX A0} {x1 : QX A1} {f : A0 → A1 → Bool} {W0 d i0 i1 i2 jT jF c0 s0 c1 s1 : Nat} (w0 : ∀ v, scat (p0 v) ≤ W0) (h0 : XE k T p0 env d i0 i1 c0 s0 x0) (h1 : XE k T p1 env (d + W0) i1 i2 c1 s1 x1)
    (leaf : ∀ (v0 : A0) (v1 : A1) (st : List Value) (mm : QM) (a b : Nat), GG k env st mm (if f v0 v1 = true then jT else jF) a b → GG k env (p1 v1 ++ (p0 v0 ++ st)) mm i2 a b) : CE k T env d i0 jT jF (c0 + c1) (s0 + s1) (xb x0 fun v0 => xb x1 fun v1 => xp (f v0 v1)) := by
  intro st mm a b hd hc hs h
  refine h0 st mm a b hd (by omega) (by omega) (qwp_mono (qwp_xb h) (fun v0 m1 q1 => ?_) (fun _ _ q => q))
  refine h1 (p0 v0 ++ st) m1 (a + c0) (b + s0) (scat_le hd (w0 v0)) (by omega) (by omega) (qwp_mono (qwp_xb q1) (fun v1 m2 q2 => ?_) (fun _ _ q => q))
  exact leaf v0 v1 st m2 _ _ (GG_cs q2 (by omega) (by omega))
theorem CE_1 {A0 : Type} {p0 : A0 → List Value} {x0 : QX A0} {f : A0 → Bool} {d i0 i1 jT jF c0 s0 : Nat} (h0 : XE k T p0 env d i0 i1 c0 s0 x0)
    (leaf : ∀ (v0 : A0) (st : List Value) (mm : QM) (a b : Nat), GG k env st mm (if f v0 = true then jT else jF) a b → GG k env (p0 v0 ++ st) mm i1 a b) : CE k T env d i0 jT jF c0 s0 (xb x0 fun v0 => xp (f v0)) := by
  intro st mm a b hd hc hs h
  refine h0 st mm a b hd (by omega) (by omega) (qwp_mono (qwp_xb h) (fun v0 m1 q1 => ?_) (fun _ _ q => q))
  exact leaf v0 st m1 _ _ q1
theorem CE_and {x y : QX Bool} {d i jm jT jF c0 s0 c1 s1 : Nat} (h0 : CE k T env d i jm jF c0 s0 x) (h1 : CE k T env d jm jT jF c1 s1 y) : CE k T env d i jT jF (c0 + c1) (s0 + s1) (xb x fun v => if v then y else xp false) := by
  intro st mm a b hd hc hs h
  refine h0 st mm a b hd (by omega) (by omega) (qwp_mono (qwp_xb h) (fun v m1 q1 => ?_) (fun _ _ q => q))
  cases v with
  | true => exact h1 st m1 (a + c0) (b + s0) hd (by omega) (by omega) (qwp_mono q1 (fun z m' g => GG_cs g (by omega) (by omega)) (fun _ _ q => q))
  | false => exact GG_widen (a' := a + (c0 + c1)) (b' := b + (s0 + s1)) (by omega) (by omega) q1
theorem CE_or {x y : QX Bool} {d i jm jT jF c0 s0 c1 s1 : Nat} (h0 : CE k T env d i jT jm c0 s0 x) (h1 : CE k T env d jm jT jF c1 s1 y) : CE k T env d i jT jF (c0 + c1) (s0 + s1) (xb x fun v => if v then xp true else y) := by
  intro st mm a b hd hc hs h
  refine h0 st mm a b hd (by omega) (by omega) (qwp_mono (qwp_xb h) (fun v m1 q1 => ?_) (fun _ _ q => q))
  cases v with
  | true => exact GG_widen (a' := a + (c0 + c1)) (b' := b + (s0 + s1)) (by omega) (by omega) q1
  | false => exact h1 st m1 (a + c0) (b + s0) hd (by omega) (by omega) (qwp_mono q1 (fun z m' g => GG_cs g (by omega) (by omega)) (fun _ _ q => q))
theorem CE_not {x : QX Bool} {d i jT jF c0 s0 : Nat} (h0 : CE k T env d i jF jT c0 s0 x) : CE k T env d i jT jF c0 s0 (xb x fun v => xp (!v)) := by
  intro st mm a b hd hc hs h
  refine h0 st mm a b hd hc hs (qwp_mono (qwp_xb h) (fun v m1 q1 => ?_) (fun _ _ q => q))
  cases v <;> exact q1
/-- a condition's value as a number -/
theorem XE_b2i {x : QX Bool} {d i jT jF j c0 s0 : Nat} (h0 : CE k T env d i jT jF c0 s0 x) (hT : ∀ (st : List Value) (mm : QM) (a b : Nat), GG k env (.int 1 :: st) mm j a b → GG k env st mm jT a b) (hF : ∀ (st : List Value) (mm : QM) (a b : Nat), GG k env (.int 0 :: st) mm j a b → GG k env st mm jF a b) : XE k T pI env d i j c0 s0 (xb x fun v => xp (b2i v)) := by
  intro st mm a b hd hc hs h
  refine h0 st mm a b hd hc hs (qwp_mono (qwp_xb h) (fun v m1 q1 => ?_) (fun _ _ q => q))
  cases v with
  | true => exact hT _ _ _ _ q1
  | false => exact hF _ _ _ _ q1
theorem XE_tern {pA : α → List Value} {x : QX Bool} {y z : QX α} {d i jT jF jg j c0 s0 c1 s1 c2 s2 : Nat} (h0 : CE k T env d i jT jF c0 s0 x) (h1 : XE k T pA env d jT jg c1 s1 y) (hg : ∀ (st : List Value) (mm : QM) (a b : Nat), GG k env st mm j a b → GG k env st mm jg a b) (h2 : XE k T pA env d jF j c2 s2 z) :
    XE k T pA env d i j (c0 + max c1 c2) (s0 + max s1 s2) (xb x fun v => if v then y else z) := by
  intro st mm a b hd hc hs h
  refine h0 st mm a b hd (by omega) (by omega) (qwp_mono (qwp_xb h) (fun v m1 q1 => ?_) (fun _ _ q => q))
  cases v with
  | true => exact h1 st m1 (a + c0) (b + s0) hd (by omega) (by omega) (qwp_mono q1 (fun z m' g => hg _ _ _ _ (GG_widen (a' := a + (c0 + max c1 c2)) (b' := b + (s0 + max s1 s2)) (by omega) (by omega) g)) (fun _ _ q => q))
  | false => exact h2 st m1 (a + c0) (b + s0) hd (by omega) (by omega) (qwp_mono q1 (fun z m' g => GG_widen (a' := a + (c0 + max c1 c2)) (b' := b + (s0 + max s1 s2)) (by omega) (by omega) g) (fun _ _ q => q))
theorem CE_tern {x y z : QX Bool} {d i jm jn jT jF c0 s0 c1 s1 c2 s2 : Nat} (h0 : CE k T env d i jm jn c0 s0 x) (h1 : CE k T env d jm jT jF c1 s1 y) (h2 : CE k T env d jn jT jF c2 s2 z) : CE k T env d i jT jF (c0 + max c1 c2) (s0 + max s1 s2) (xb x fun v => if v then y else z) := by
  intro st mm a b hd hc hs h
  refine h0 st mm a b hd (by omega) (by omega) (qwp_mono (qwp_xb h) (fun v m1 q1 => ?_) (fun _ _ q => q))
  cases v with
  | true => exact h1 st m1 (a + c0) (b + s0) hd (by omega) (by omega) (qwp_mono q1 (fun z m' g => GG_widen (a' := a + (c0 + max c1 c2)) (b' := b + (s0 + max s1 s2)) (by omega) (by omega) g) (fun _ _ q => q))
  | false => exact h2 st m1 (a + c0) (b + s0) hd (by omega) (by omega) (qwp_mono q1 (fun z m' g => GG_widen (a' := a + (c0 + max c1 c2)) (b' := b + (s0 + max s1 s2)) (by omega) (by omega) g) (fun _ _ q => q))
/- x op= e on a field, and on a place of an array -/
theorem XE_dup {A B C : Type} {pA : A → List Value} {pB : B → List Value} {pC : C → List Value} {x : QX (Option Nat)} {g : Option Nat → QX A} {y : QX B} {f : A → B → QX C} {p : Option Nat → C → QX Unit} {WA d i0 i1 i2 i3 i4 i5 c0 s0 c1 s1 c2 s2 c3 s3 c4 s4 : Nat} (wA : ∀ v, scat (pA v) ≤ WA)
    (h0 : XE k T pR env d i0 i1 c0 s0 x) (hd2 : ∀ (r : Option Nat) (st : List Value) (mm : QM) (a b : Nat), GG k env (va_rf r :: va_rf r :: st) mm (i1 + 1) a b → GG k env (va_rf r :: st) mm i1 a b) (hg : OP1 k T pR pA env (d + 1) (i1 + 1) i2 c1 s1 g) (he : XE k T pB env (d + 1 + WA) i2 i3 c2 s2 y) (hop : OP2 k T pA pB pC env (d + 1) i3 i4 c3 s3 f) (hp : OP2 k T pR pC pU env d i4 i5 c4 s4 p) :
    XE k T pU env d i0 i5 (c0 + c1 + c2 + c3 + c4) (s0 + s1 + s2 + s3 + s4) (xb x fun r => xb (g r) fun v => xb y fun w => xb (f v w) fun z => p r z) := by
  intro st mm a b hd hc hs h
  refine h0 st mm a b hd (by omega) (by omega) (qwp_mono (qwp_xb h) (fun r m1 q1 => hd2 r st m1 _ _ ?_) (fun _ _ q => q))
  refine hg r (pR r ++ st) m1 (a + c0) (b + s0) (scat_le hd (wR r)) (by omega) (by omega) (qwp_mono (qwp_xb q1) (fun v m2 q2 => ?_) (fun _ _ q => q))
  refine he (pA v ++ (pR r ++ st)) m2 _ _ (scat_le (scat_le hd (wR r)) (wA v)) (by omega) (by omega) (qwp_mono (qwp_xb q2) (fun w m3 q3 => ?_) (fun _ _ q => q))
  refine hop v w (pR r ++ st) m3 _ _ (scat_le hd (wR r)) (by omega) (by omega) (qwp_mono (qwp_xb q3) (fun z m4 q4 => ?_) (fun _ _ q => q))
  exact hp r z st m4 _ _ hd (by omega) (by omega) (qwp_mono q4 (fun z m' g => GG_cs g (by omega) (by omega)) (fun _ _ q => q))
def OP3 (k : QC) (T : Nat → QM → Prop) {A B C E : Type} (pA : A → List Value) (pB : B → List Value) (pC : C → List Value) (pE : E → List Value) (env : List (Nat × Value)) (d i j kc ks' : Nat) (f : A → B → C → QX E) : Prop :=
  ∀ (v : A) (w : B) (u : C) (st : List Value) (mm : QM) (a b : Nat), scat st ≤ d → a + kc ≤ (kR k).cells → b + ks' ≤ (kR k).slots → qwp (f v w u) (fun z m' => GG k env (pE z ++ st) m' j (a + kc) (b + ks')) T mm → GG k env (pC u ++ (pB w ++ (pA v ++ st))) mm i a b
theorem XE_dup2 {A B C : Type} {pA : A → List Value} {pB : B → List Value} {pC : C → List Value} {x : QX (Option Nat)} {x' : QX Int32} {g : Option Nat → Int32 → QX A} {y : QX B} {f : A → B → QX C} {p : Option Nat → Int32 → C → QX Unit} {WA d i0 i0' i1 i2 i3 i4 i5 c0 s0 c0' s0' c1 s1 c2 s2 c3 s3 c4 s4 : Nat} (wA : ∀ v, scat (pA v) ≤ WA)
    (h0 : XE k T pR env d i0 i0' c0 s0 x) (h0' : XE k T pI env (d + 1) i0' i1 c0' s0' x') (hd2 : ∀ (r : Option Nat) (n : Int32) (st : List Value) (mm : QM) (a b : Nat), GG k env (.int n :: va_rf r :: .int n :: va_rf r :: st) mm (i1 + 1) a b → GG k env (.int n :: va_rf r :: st) mm i1 a b) (hg : OP2 k T pR pI pA env (d + 1 + 1) (i1 + 1) i2 c1 s1 g) (he : XE k T pB env (d + 1 + 1 + WA) i2 i3 c2 s2 y) (hop : OP2 k T pA pB pC env (d + 1 + 1) i3 i4 c3 s3 f) (hp : OP3 k T pR pI pC pU env d i4 i5 c4 s4 p) :
    XE k T pU env d i0 i5 (c0 + c0' + c1 + c2 + c3 + c4) (s0 + s0' + s1 + s2 + s3 + s4) (xb x fun r => xb x' fun n => xb (g r n) fun v => xb y fun w => xb (f v w) fun z => p r n z) := by
  intro st mm a b hd hc hs h
  refine h0 st mm a b hd (by omega) (by omega) (qwp_mono (qwp_xb h) (fun r m0 q0 => ?_) (fun _ _ q => q))
  refine h0' (pR r ++ st) m0 _ _ (scat_le hd (wR r)) (by omega) (by omega) (qwp_mono (qwp_xb q0) (fun n m1 q1 => hd2 r n st m1 _ _ ?_) (fun _ _ q => q))
  have hdd : scat (pI n ++ (pR r ++ st)) ≤ d + 1 + 1 := scat_le (scat_le hd (wR r)) (wI n)
  refine hg r n (pI n ++ (pR r ++ st)) m1 _ _ hdd (by omega) (by omega) (qwp_mono (qwp_xb q1) (fun v m2 q2 => ?_) (fun _ _ q => q))
  refine he (pA v ++ (pI n ++ (pR r ++ st))) m2 _ _ (scat_le hdd (wA v)) (by omega) (by omega) (qwp_mono (qwp_xb q2) (fun w m3 q3 => ?_) (fun _ _ q => q))
  refine hop v w (pI n ++ (pR r ++ st)) m3 _ _ hdd (by omega) (by omega) (qwp_mono (qwp_xb q3) (fun z m4 q4 => ?_) (fun _ _ q => q))
  exact hp r n z st m4 _ _ hd (by omega) (by omega) (qwp_mono q4 (fun z m' g => GG_cs g (by omega) (by omega)) (fun _ _ q => q))
/- new C(..): the object, its second name, the arguments, the constructor -/
theorem XE_new {c d i i2 kc0 ks0 c1 s1 : Nat} {f : Option Nat → QX Unit} (hn : ∀ (st : List Value) (mm : QM) (a b : Nat), a + 1 ≤ (kR k).cells → b + ks0 ≤ (kR k).slots → GG k env (.ref (qtop mm) :: st) (qnew mm c) (i + 3) (a + 1) (b + ks0) → GG k env st mm i a b) (hd2 : ∀ (r : Option Nat) (st : List Value) (mm : QM) (a b : Nat), GG k env (va_rf r :: va_rf r :: st) mm (i + 3 + 1) a b → GG k env (va_rf r :: st) mm (i + 3) a b)
    (hb : OP1 k T pR pU env (d + 1) (i + 4) i2 c1 s1 f) (hkc : kc0 = 1 + c1) : XE k T pR env d i i2 kc0 (ks0 + s1) (xb (xnew c) fun r => xb (f r) fun _ => xp r) := by
  subst hkc
  intro st mm a b hd hc hs h
  have h1 := qwp_xb h
  refine hn st mm a b (by omega) (by omega) (hd2 (some (qtop mm)) st _ _ _ ?_)
  refine hb (some (qtop mm)) (pR (some (qtop mm)) ++ st) _ _ _ (scat_le hd (wR _)) (by omega) (by omega) (qwp_mono (qwp_xb h1) (fun u m2 q2 => ?_) (fun _ _ q => q))
  exact GG_cs q2 (by omega) (by omega)
/-- the arguments behind a receiver on the stack -/
theorem OP_args0 {pA : α → List Value} {d i j c s : Nat} {f : α → QX Unit} (h : OP1 k T pA pU env d i j c s f) : OP1 k T pA pU env d i j c s f := h
theorem OP_args1 {A0 : Type} {p0 : A0 → List Value} {x0 : QX A0} {f : Option Nat → A0 → QX Unit} {d i0 i1 i2 c0 s0 c1 s1 : Nat}  (h0 : XE k T p0 env (d + 1) i0 i1 c0 s0 x0) (hop : ∀ (r : Option Nat) (v0 : A0) (st : List Value) (mm : QM) (a b : Nat), scat st ≤ d → a + c1 ≤ (kR k).cells → b + s1 ≤ (kR k).slots → qwp (f r v0) (fun z m' => GG k env (pU z ++ st) m' i2 (a + c1) (b + s1)) T mm → GG k env (p0 v0 ++ (pR r ++ st)) mm i1 a b) : OP1 k T pR pU env d i0 i2 (c0 + c1) (s0 + s1) (fun r => xb x0 fun v0 => f r v0) := by
  intro r st mm a b hd hc hs h
  refine h0 (pR r ++ st) mm (a) (b) (scat_le hd (wR r)) (by omega) (by omega) (qwp_mono (qwp_xb h) (fun v0 m1 q1 => ?_) (fun _ _ q => q))
  exact hop r v0 st m1 (a + c0) (b + s0) hd (by omega) (by omega) (qwp_mono q1 (fun z m' g => GG_cs g (by omega) (by omega)) (fun _ _ q => q))
theorem OP_args2 {A0 A1 : Type} {p0 : A0 → List Value} {p1 : A1 → List Value} {x0 : QX A0} {x1 : QX A1} {f : Option Nat → A0 → A1 → QX Unit} {W0 d i0 i1 i2 i3 c0 s0 c1 s1 c2 s2 : Nat} (w0 : ∀ v, scat (p0 v) ≤ W0) (h0 : XE k T p0 env (d + 1) i0 i1 c0 s0 x0) (h1 : XE k T p1 env (d + 1 + W0) i1 i2 c1 s1 x1) (hop : ∀ (r : Option Nat) (v0 : A0) (v1 : A1) (st : List Value) (mm : QM) (a b : Nat), scat st ≤ d → a + c2 ≤ (kR k).cells → b + s2 ≤ (kR k).slots → qwp (f r v0 v1) (fun z m' => GG k env (pU z ++ st) m' i3 (a + c2) (b + s2)) T mm → GG k env (p1 v1 ++ (p0 v0 ++ (pR r ++ st))) mm i2 a b) : OP1 k T pR pU env d i0 i3 (c0 + c1 + c2) (s0 + s1 + s2) (fun r => xb x0 fun v0 => xb x1 fun v1 => f r v0 v1) := by
  intro r st mm a b hd hc hs h
  refine h0 (pR r ++ st) mm (a) (b) (scat_le hd (wR r)) (by omega) (by omega) (qwp_mono (qwp_xb h) (fun v0 m1 q1 => ?_) (fun _ _ q => q))
  refine h1 (p0 v0 ++ (pR r ++ st)) m1 (a + c0) (b + s0) (scat_le (scat_le hd (wR r)) (w0 v0)) (by omega) (by omega) (qwp_mono (qwp_xb q1) (fun v1 m2 q2 => ?_) (fun _ _ q => q))
  exact hop r v0 v1 st m2 (a + c0 + c1) (b + s0 + s1) hd (by omega) (by omega) (qwp_mono q2 (fun z m' g => GG_cs g (by omega) (by omega)) (fun _ _ q => q))
theorem OP_args3 {A0 A1 A2 : Type} {p0 : A0 → List Value} {p1 : A1 → List Value} {p2 : A2 → List Value} {x0 : QX A0} {x1 : QX A1} {x2 : QX A2} {f : Option Nat → A0 → A1 → A2 → QX Unit} {W0 W1 d i0 i1 i2 i3 i4 c0 s0 c1 s1 c2 s2 c3 s3 : Nat} (w0 : ∀ v, scat (p0 v) ≤ W0) (w1 : ∀ v, scat (p1 v) ≤ W1) (h0 : XE k T p0 env (d + 1) i0 i1 c0 s0 x0) (h1 : XE k T p1 env (d + 1 + W0) i1 i2 c1 s1 x1) (h2 : XE k T p2 env (d + 1 + W0 + W1) i2 i3 c2 s2 x2) (hop : ∀ (r : Option Nat) (v0 : A0) (v1 : A1) (v2 : A2) (st : List Value) (mm : QM) (a b : Nat), scat st ≤ d → a + c3 ≤ (kR k).cells → b + s3 ≤ (kR k).slots → qwp (f r v0 v1 v2) (fun z m' => GG k env (pU z ++ st) m' i4 (a + c3) (b + s3)) T mm → GG k env (p2 v2 ++ (p1 v1 ++ (p0 v0 ++ (pR r ++ st)))) mm i3 a b) : OP1 k T pR pU env d i0 i4 (c0 + c1 + c2 + c3) (s0 + s1 + s2 + s3) (fun r => xb x0 fun v0 => xb x1 fun v1 => xb x2 fun v2 => f r v0 v1 v2) := by
  intro r st mm a b hd hc hs h
  refine h0 (pR r ++ st) mm (a) (b) (scat_le hd (wR r)) (by omega) (by omega) (qwp_mono (qwp_xb h) (fun v0 m1 q1 => ?_) (fun _ _ q => q))
  refine h1 (p0 v0 ++ (pR r ++ st)) m1 (a + c0) (b + s0) (scat_le (scat_le hd (wR r)) (w0 v0)) (by omega) (by omega) (qwp_mono (qwp_xb q1) (fun v1 m2 q2 => ?_) (fun _ _ q => q))
  refine h2 (p1 v1 ++ (p0 v0 ++ (pR r ++ st))) m2 (a + c0 + c1) (b + s0 + s1) (scat_le (scat_le (scat_le hd (wR r)) (w0 v0)) (w1 v1)) (by omega) (by omega) (qwp_mono (qwp_xb q2) (fun v2 m3 q3 => ?_) (fun _ _ q => q))
  exact hop r v0 v1 v2 st m3 (a + c0 + c1 + c2) (b + s0 + s1 + s2) hd (by omega) (by omega) (qwp_mono q3 (fun z m' g => GG_cs g (by omega) (by omega)) (fun _ _ q => q))
theorem OP_args4 {A0 A1 A2 A3 : Type} {p0 : A0 → List Value} {p1 : A1 → List Value} {p2 : A2 → List Value} {p3 : A3 → List Value} {x0 : QX A0} {x1 : QX A1} {x2 : QX A2} {x3 : QX A3} {f : Option Nat → A0 → A1 → A2 → A3 → QX Unit} {W0 W1 W2 d i0 i1 i2 i3 i4 i5 c0 s0 c1 s1 c2 s2 c3 s3 c4 s4 : Nat} (w0 : ∀ v, scat (p0 v) ≤ W0) (w1 : ∀ v, scat (p1 v) ≤ W1) (w2 : ∀ v, scat (p2 v) ≤ W2) (h0 : XE k T p0 env (d + 1) i0 i1 c0 s0 x0) (h1 : XE k T p1 env (d + 1 + W0) i1 i2 c1 s1 x1) (h2 : XE k T p2 env (d + 1 + W0 + W1) i2 i3 c2 s2 x2) (h3 : XE k T p3 env (d + 1 + W0 + W1 + W2) i3 i4 c3 s3 x3) (hop : ∀ (r : Option Nat) (v0 : A0) (v1 : A1) (v2 : A2) (v3 : A3) (st : List Value) (mm : QM) (a b : Nat), scat st ≤ d → a + c4 ≤ (kR k).cells → b + s4 ≤ (kR k).slots → qwp (f r v0 v1 v2 v3) (fun z m' => GG k env (pU z ++ st) m' i5 (a + c4) (b + s4)) T mm → GG k env (p3 v3 ++ (p2 v2 ++ (p1 v1 ++ (p0 v0 ++ (pR r ++ st))))) mm i4 a b) : OP1 k T pR pU env d i0 i5 (c0 + c1 + c2 + c3 + c4) (s0 + s1 + s2 + s3 + s4) (fun r => xb x0 fun v0 => xb x1 fun v1 => xb x2 fun v2 => xb x3 fun v3 => f r v0 v1 v2 v3) := by
  intro r st mm a b hd hc hs h
  refine h0 (pR r ++ st) mm (a) (b) (scat_le hd (wR r)) (by omega) (by omega) (qwp_mono (qwp_xb h) (fun v0 m1 q1 => ?_) (fun _ _ q => q))
  refine h1 (p0 v0 ++ (pR r ++ st)) m1 (a + c0) (b + s0) (scat_le (scat_le hd (wR r)) (w0 v0)) (by omega) (by omega) (qwp_mono (qwp_xb q1) (fun v1 m2 q2 => ?_) (fun _ _ q => q))
  refine h2 (p1 v1 ++ (p0 v0 ++ (pR r ++ st))) m2 (a + c0 + c1) (b + s0 + s1) (scat_le (scat_le (scat_le hd (wR r)) (w0 v0)) (w1 v1)) (by omega) (by omega) (qwp_mono (qwp_xb q2) (fun v2 m3 q3 => ?_) (fun _ _ q => q))
  refine h3 (p2 v2 ++ (p1 v1 ++ (p0 v0 ++ (pR r ++ st)))) m3 (a + c0 + c1 + c2) (b + s0 + s1 + s2) (scat_le (scat_le (scat_le (scat_le hd (wR r)) (w0 v0)) (w1 v1)) (w2 v2)) (by omega) (by omega) (qwp_mono (qwp_xb q3) (fun v3 m4 q4 => ?_) (fun _ _ q => q))
  exact hop r v0 v1 v2 v3 st m4 (a + c0 + c1 + c2 + c3) (b + s0 + s1 + s2 + s3) hd (by omega) (by omega) (qwp_mono q4 (fun z m' g => GG_cs g (by omega) (by omega)) (fun _ _ q => q))
theorem OP_args5 {A0 A1 A2 A3 A4 : Type} {p0 : A0 → List Value} {p1 : A1 → List Value} {p2 : A2 → List Value} {p3 : A3 → List Value} {p4 : A4 → List Value} {x0 : QX A0} {x1 : QX A1} {x2 : QX A2} {x3 : QX A3} {x4 : QX A4} {f : Option Nat → A0 → A1 → A2 → A3 → A4 → QX Unit} {W0 W1 W2 W3 d i0 i1 i2 i3 i4 i5 i6 c0 s0 c1 s1 c2 s2 c3 s3 c4 s4 c5 s5 : Nat} (w0 : ∀ v, scat (p0 v) ≤ W0) (w1 : ∀ v, scat (p1 v) ≤ W1) (w2 : ∀ v, scat (p2 v) ≤ W2) (w3 : ∀ v, scat (p3 v) ≤ W3) (h0 : XE k T p0 env (d + 1) i0 i1 c0 s0 x0) (h1 : XE k T p1 env (d + 1 + W0) i1 i2 c1 s1 x1) (h2 : XE k T p2 env (d + 1 + W0 + W1) i2 i3 c2 s2 x2) (h3 : XE k T p3 env (d + 1 + W0 + W1 + W2) i3 i4 c3 s3 x3) (h4 : XE k T p4 env (d + 1 + W0 + W1 + W2 + W3) i4 i5 c4 s4 x4) (hop : ∀ (r : Option Nat) (v0 : A0) (v1 : A1) (v2 : A2) (v3 : A3) (v4 : A4) (st : List Value) (mm : QM) (a b : Nat), scat st ≤ d → a + c5 ≤ (kR k).cells → b + s5 ≤ (kR k).slots → qwp (f r v0 v1 v2 v3 v4) (fun z m' => GG k env (pU z ++ st) m' i6 (a + c5) (b + s5)) T mm → GG k env (p4 v4 ++ (p3 v3 ++ (p2 v2 ++ (p1 v1 ++ (p0 v0 ++ (pR r ++ st)))))) mm i5 a b) : OP1 k T pR pU env d i0 i6 (c0 + c1 + c2 + c3 + c4 + c5) (s0 + s1 + s2 + s3 + s4 + s5) (fun r => xb x0 fun v0 => xb x1 fun v1 => xb x2 fun v2 => xb x3 fun v3 => xb x4 fun v4 => f r v0 v1 v2 v3 v4) := by
  intro r st mm a b hd hc hs h
  refine h0 (pR r ++ st) mm (a) (b) (scat_le hd (wR r)) (by omega) (by omega) (qwp_mono (qwp_xb h) (fun v0 m1 q1 => ?_) (fun _ _ q => q))
  refine h1 (p0 v0 ++ (pR r ++ st)) m1 (a + c0) (b + s0) (scat_le (scat_le hd (wR r)) (w0 v0)) (by omega) (by omega) (qwp_mono (qwp_xb q1) (fun v1 m2 q2 => ?_) (fun _ _ q => q))
  refine h2 (p1 v1 ++ (p0 v0 ++ (pR r ++ st))) m2 (a + c0 + c1) (b + s0 + s1) (scat_le (scat_le (scat_le hd (wR r)) (w0 v0)) (w1 v1)) (by omega) (by omega) (qwp_mono (qwp_xb q2) (fun v2 m3 q3 => ?_) (fun _ _ q => q))
  refine h3 (p2 v2 ++ (p1 v1 ++ (p0 v0 ++ (pR r ++ st)))) m3 (a + c0 + c1 + c2) (b + s0 + s1 + s2) (scat_le (scat_le (scat_le (scat_le hd (wR r)) (w0 v0)) (w1 v1)) (w2 v2)) (by omega) (by omega) (qwp_mono (qwp_xb q3) (fun v3 m4 q4 => ?_) (fun _ _ q => q))
  refine h4 (p3 v3 ++ (p2 v2 ++ (p1 v1 ++ (p0 v0 ++ (pR r ++ st))))) m4 (a + c0 + c1 + c2 + c3) (b + s0 + s1 + s2 + s3) (scat_le (scat_le (scat_le (scat_le (scat_le hd (wR r)) (w0 v0)) (w1 v1)) (w2 v2)) (w3 v3)) (by omega) (by omega) (qwp_mono (qwp_xb q4) (fun v4 m5 q5 => ?_) (fun _ _ q => q))
  exact hop r v0 v1 v2 v3 v4 st m5 (a + c0 + c1 + c2 + c3 + c4) (b + s0 + s1 + s2 + s3 + s4) hd (by omega) (by omega) (qwp_mono q5 (fun z m' g => GG_cs g (by omega) (by omega)) (fun _ _ q => q))
/- blocks -/
theorem SB_let {pA : α → List Value} {RET : ρ → QM → Prop} {x : QX α} {f : α → QX ρ} {ev : α → List (Nat × Value)} {i j j' c s c' s' : Nat} (he : XE k T pA env 0 i j c s x) (hst : ∀ (v : α) (mm : QM) (a b : Nat), GG k (ev v) [] mm j' a b → GG k env (pA v ++ []) mm j a b) (hk : ∀ v, SB k T RET (ev v) j' c' s' (f v)) : SB k T RET env i (c + c') (s + s') (xb x f) := by
  intro mm a b hc hs h
  exact he [] mm a b (Nat.le_refl 0) (by omega) (by omega) (qwp_mono (qwp_xb h) (fun v m1 q1 => hst v m1 _ _ (hk v m1 _ _ (by omega) (by omega) q1)) (fun _ _ q => q))
theorem SB_do {RET : ρ → QM → Prop} {x : QX Unit} {y : QX ρ} {i j c s c' s' : Nat} (he : XE k T pU env 0 i j c s x) (hk : SB k T RET env j c' s' y) : SB k T RET env i (c + c') (s + s') (xb x fun _ => y) := by
  intro mm a b hc hs h
  exact he [] mm a b (Nat.le_refl 0) (by omega) (by omega) (qwp_mono (qwp_xb h) (fun v m1 q1 => hk m1 _ _ (by omega) (by omega) q1) (fun _ _ q => q))
theorem SB_ret {pA : ρ → List Value} {RET : ρ → QM → Prop} {x : QX ρ} {i j c s : Nat} (he : XE k T pA env 0 i j c s x) (hr : ∀ (v : ρ) (mm : QM) (a b : Nat), a ≤ (kR k).cells → b ≤ (kR k).slots → RET v mm → GG k env (pA v ++ []) mm j a b) : SB k T RET env i c s x := by
  intro mm a b hc hs h
  exact he [] mm a b (Nat.le_refl 0) (by omega) (by omega) (qwp_mono h (fun v m1 q1 => hr v m1 _ _ hc hs q1) (fun _ _ q => q))
theorem SB_if {RET : ρ → QM → Prop} {x : QX Bool} {y z : QX ρ} {i jT jF c s c1 s1 c2 s2 : Nat} (hc0 : CE k T env 0 i jT jF c s x) (h1 : SB k T RET env jT c1 s1 y) (h2 : SB k T RET env jF c2 s2 z) : SB k T RET env i (c + max c1 c2) (s + max s1 s2) (xb x fun v => if v then y else z) := by
  intro mm a b hc hs h
  refine hc0 [] mm a b (Nat.le_refl 0) (by omega) (by omega) (qwp_mono (qwp_xb h) (fun v m1 q1 => ?_) (fun _ _ q => q))
  cases v with
  | true => exact h1 m1 _ _ (by omega) (by omega) q1
  | false => exact h2 m1 _ _ (by omega) (by omega) q1
theorem SB_seq {RET : ρ → QM → Prop} {upd : σ → List (Nat × Value)} {x : QX σ} {f : σ → QX ρ} {i j c s c' s' : Nat} (he : ST k T upd env i j c s x) (hk : ∀ v, SB k T RET (upd v) j c' s' (f v)) : SB k T RET env i (c + c') (s + s') (xb x f) := by
  intro mm a b hc hs h
  exact he mm a b (by omega) (by omega) (qwp_mono (qwp_xb h) (fun v m1 q1 => hk v m1 _ _ (by omega) (by omega) q1) (fun _ _ q => q))
theorem SB_pre {RET : ρ → QM → Prop} {x : QX ρ} {i j c s : Nat} (h0 : ∀ (mm : QM) (a b : Nat), GG k env' [] mm j a b → GG k env [] mm i a b) (h : SB k T RET env' j c s x) : SB k T RET env i c s x := fun mm a b hc hs q => h0 mm a b (h mm a b hc hs q)
theorem SB_end {RET : ρ → QM → Prop} {v : ρ} {i : Nat} (h : ∀ (mm : QM) (a b : Nat), a ≤ (kR k).cells → b ≤ (kR k).slots → RET v mm → GG k env [] mm i a b) : SB k T RET env i 0 0 (xp v) := fun mm a b hc hs q => h mm a b hc hs q
theorem SB_throw {RET : ρ → QM → Prop} {e i : Nat} (h : ∀ (mm : QM) (a b : Nat), a + 1 ≤ (kR k).cells → b + 6 ≤ (kR k).slots → T e mm → GG k env [] mm i a b) : SB k T RET env i 1 6 (xth e : QX ρ) := fun mm a b hc hs q => h mm a b hc hs q
/- statements -/
theorem ST_done {upd : σ → List (Nat × Value)} {s : σ} {i : Nat} (ps : List Nat) (hp : lv_pick env ps = upd s) : ST k T upd env i i 0 0 (xp s) := fun mm a b _ _ q => GG_sub ps hp q
theorem ST_let {pA : α → List Value} {upd : σ → List (Nat × Value)} {x : QX α} {f : α → QX σ} {ev : α → List (Nat × Value)} {i j j' je c s c' s' : Nat} (he : XE k T pA env 0 i j c s x) (hst : ∀ (v : α) (mm : QM) (a b : Nat), GG k (ev v) [] mm j' a b → GG k env (pA v ++ []) mm j a b) (hk : ∀ v, ST k T upd (ev v) j' je c' s' (f v)) : ST k T upd env i je (c + c') (s + s') (xb x f) := by
  intro mm a b hc hs h
  exact he [] mm a b (Nat.le_refl 0) (by omega) (by omega) (qwp_mono (qwp_xb h) (fun v m1 q1 => hst v m1 _ _ (hk v m1 _ _ (by omega) (by omega) (qwp_mono q1 (fun z m' g => GG_cs g (by omega) (by omega)) (fun _ _ q => q)))) (fun _ _ q => q))
theorem ST_do {upd : σ → List (Nat × Value)} {x : QX Unit} {y : QX σ} {i j je c s c' s' : Nat} (he : XE k T pU env 0 i j c s x) (hk : ST k T upd env j je c' s' y) : ST k T upd env i je (c + c') (s + s') (xb x fun _ => y) := by
  intro mm a b hc hs h
  exact he [] mm a b (Nat.le_refl 0) (by omega) (by omega) (qwp_mono (qwp_xb h) (fun v m1 q1 => hk m1 _ _ (by omega) (by omega) (qwp_mono q1 (fun z m' g => GG_cs g (by omega) (by omega)) (fun _ _ q => q))) (fun _ _ q => q))
theorem ST_if {upd : σ → List (Nat × Value)} {x : QX Bool} {y z : QX σ} {i jT jF j c s c1 s1 c2 s2 : Nat} (hc0 : CE k T env 0 i jT jF c s x) (h1 : ST k T upd env jT j c1 s1 y) (h2 : ST k T upd env jF j c2 s2 z) : ST k T upd env i j (c + max c1 c2) (s + max s1 s2) (xb x fun v => if v then y else z) := by
  intro mm a b hc hs h
  refine hc0 [] mm a b (Nat.le_refl 0) (by omega) (by omega) (qwp_mono (qwp_xb h) (fun v m1 q1 => ?_) (fun _ _ q => q))
  cases v with
  | true => exact h1 m1 _ _ (by omega) (by omega) (qwp_mono q1 (fun z m' g => GG_widen (a' := a + (c + max c1 c2)) (b' := b + (s + max s1 s2)) (by omega) (by omega) g) (fun _ _ q => q))
  | false => exact h2 m1 _ _ (by omega) (by omega) (qwp_mono q1 (fun z m' g => GG_widen (a' := a + (c + max c1 c2)) (b' := b + (s + max s1 s2)) (by omega) (by omega) g) (fun _ _ q => q))
theorem ST_seq {τ : Type} {upd1 : τ → List (Nat × Value)} {upd : σ → List (Nat × Value)} {x : QX τ} {f : τ → QX σ} {i j je c s c' s' : Nat} (he : ST k T upd1 env i j c s x) (hk : ∀ v, ST k T upd (upd1 v) j je c' s' (f v)) : ST k T upd env i je (c + c') (s + s') (xb x f) := by
  intro mm a b hc hs h
  exact he mm a b (by omega) (by omega) (qwp_mono (qwp_xb h) (fun v m1 q1 => hk v m1 _ _ (by omega) (by omega) (qwp_mono q1 (fun z m' g => GG_cs g (by omega) (by omega)) (fun _ _ q => q))) (fun _ _ q => q))
theorem ST_pre {upd : σ → List (Nat × Value)} {x : QX σ} {i j je c s : Nat} (h0 : ∀ (mm : QM) (a b : Nat), GG k env' [] mm j a b → GG k env [] mm i a b) (h : ST k T upd env' j je c s x) : ST k T upd env i je c s x := fun mm a b hc hs q => h0 mm a b (h mm a b hc hs q)
theorem ST_post {upd : σ → List (Nat × Value)} {x : QX σ} {i j je c s : Nat} (h : ST k T upd env i j c s x) (h0 : ∀ (v : σ) (mm : QM) (a b : Nat), GG k (upd v) [] mm je a b → GG k (upd v) [] mm j a b) : ST k T upd env i je c s x := fun mm a b hc hs q => h mm a b hc hs (qwp_mono q (fun v m' g => h0 v m' _ _ g) (fun _ _ q => q))
theorem q_lc (n x : Nat) : (n + 1) * x = x + n * x := by rw [Nat.succ_mul]; omega
theorem ST_loop {upd : σ → List (Nat × Value)} {c : σ → QX Bool} {f : σ → QX σ} {s0 : σ} {n i h jB jX cc sc cb sb : Nat} (hi : ∀ (mm : QM) (a b : Nat), GG k (upd s0) [] mm h a b → GG k env [] mm i a b) (hc : ∀ s, CE k T (upd s) 0 h jB jX cc sc (c s)) (hb : ∀ s, ST k T upd (upd s) jB h cb sb (f s)) : ST k T upd env i jX (n * (cc + cb)) (n * (sc + sb)) (xl n c f s0) := by
  intro mm a b h1 h2 q
  refine hi mm a b ?_
  clear hi
  induction n generalizing s0 mm a b with
  | zero => exact q.elim
  | succ n ih =>
    have e1 := q_lc n (cc + cb)
    have e2 := q_lc n (sc + sb)
    have q' : qwp (xb (c s0) fun v => if v then xb (f s0) fun s' => xl n c f s' else xp s0) (fun s m' => GG k (upd s) [] m' jX (a + (n + 1) * (cc + cb)) (b + (n + 1) * (sc + sb))) T mm := q
    refine hc s0 [] mm a b (Nat.le_refl 0) (by omega) (by omega) (qwp_mono (qwp_xb q') (fun v m1 q1 => ?_) (fun _ _ q => q))
    cases v with
    | true =>
      refine hb s0 m1 (a + cc) (b + sc) (by omega) (by omega) (qwp_mono (qwp_xb q1) (fun s' m2 q2 => ?_) (fun _ _ q => q))
      exact ih m2 _ _ (by omega) (by omega) (qwp_mono q2 (fun z m' g => GG_cs g (by omega) (by omega)) (fun _ _ q => q))
    | false => exact GG_widen (a' := a + (n + 1) * (cc + cb)) (b' := b + (n + 1) * (sc + sb)) (by omega) (by omega) q1
end R7
