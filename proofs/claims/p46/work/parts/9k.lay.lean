/-! THE LAW'S STATE: what the class holds (as the reference's state), the law's three rows of numbers, and how many calls have changed something; computations over it -/
abbrev LSt : Type := MS × (Nat → Int32) × (Nat → Int32) × (Nat → Int32) × Int
def zS (L : LSt) : MS := L.1
def zN (L : LSt) : Nat → Int32 := L.2.1
def zK (L : LSt) : Nat → Int32 := L.2.2.1
def zG (L : LSt) : Nat → Int32 := L.2.2.2.1
def zT (L : LSt) : Int := L.2.2.2.2
/-- the memory holds the state: the server at sv, its rows behind it, the law's rows behind these -/
def LR (sv : Nat) (L : LSt) (m : QM) : Prop := (∃ G, CR sv G (zS L) m) ∧ SI (zT L) (zS L) ∧ (qty m (sv + 20) = (2, 0, 8) ∧ qai m (sv + 20) = zN L) ∧ (qty m (sv + 21) = (2, 0, 5) ∧ qai m (sv + 21) = zK L) ∧ (qty m (sv + 22) = (2, 0, 2) ∧ qai m (sv + 22) = zG L)
abbrev LX (α : Type) : Type := LSt → Option (Except Nat α × LSt)
def lp {α : Type} (a : α) : LX α := fun L => some (.ok a, L)
def ln {α : Type} : LX α := fun _ => none
def lb {α β : Type} (x : LX α) (f : α → LX β) : LX β := fun L => match x L with
  | none => none
  | some (.ok a, L') => f a L'
  | some (.error e, L') => some (.error e, L')
def lwp {α : Type} (x : LX α) (K : α → LSt → Prop) (T : Nat → LSt → Prop) (L : LSt) : Prop := match x L with
  | none => False
  | some (.ok a, L') => K a L'
  | some (.error e, L') => T e L'
theorem lwp_lb {α β : Type} {x : LX α} {f : α → LX β} {K : β → LSt → Prop} {T : Nat → LSt → Prop} {L : LSt} (h : lwp (lb x f) K T L) : lwp x (fun a L' => lwp (f a) K T L') T L := by
  unfold lwp lb at h
  unfold lwp
  cases hx : x L with
  | none => rw [hx] at h; exact h
  | some r =>
    obtain ⟨r1, r2⟩ := r
    rw [hx] at h
    cases r1 with
    | ok a => exact h
    | error e => exact h
theorem lwp_mono {α : Type} {x : LX α} {K K' : α → LSt → Prop} {T T' : Nat → LSt → Prop} {L : LSt} (h : lwp x K T L) (hK : ∀ a L', K a L' → K' a L') (hT : ∀ e L', T e L' → T' e L') : lwp x K' T' L := by
  unfold lwp at h ⊢
  cases hx : x L with
  | none => rw [hx] at h; exact h
  | some r =>
    obtain ⟨r1, r2⟩ := r
    rw [hx] at h
    cases r1 with
    | ok a => exact hK _ _ h
    | error e => exact hT _ _ h
def ll {σ : Type} : Nat → (σ → LX Bool) → (σ → LX σ) → σ → LX σ
  | 0, _, _, _ => ln
  | n + 1, c, b, s => lb (c s) fun v => if v then lb (b s) fun s' => ll n c b s' else lp s
def lsum {ρ σ : Type} (r : ρ ⊕ σ) (f : σ → LX ρ) : LX ρ := match r with
  | .inl v => lp v
  | .inr s => f s
def llr {ρ σ : Type} : Nat → (σ → LX Bool) → (σ → LX (ρ ⊕ σ)) → σ → LX (ρ ⊕ σ)
  | 0, _, _, _ => ln
  | n + 1, c, b, s => lb (c s) fun v => if v then lb (b s) fun r => (match r with
      | .inl v => lp (.inl v)
      | .inr s' => llr n c b s') else lp (.inr s)
def ldiv (x y : Int32) : LX Int32 := fun L => if y = 0 then none else some (.ok (x / y), L)
def lrem (x y : Int32) : LX Int32 := fun L => if y = 0 then none else some (.ok (x - x / y * y), L)
def lz (v : Int32) : LX Int32 := fun L => if v = 0 ∨ v = 1 then some (.ok v, L) else none
/-- a place of one of the law's rows -/
def lai (sv : Nat) (r : Option Nat) (i : Int32) : LX Int32 := fun L =>
  if r = some (sv + 20) then (if 0 ≤ i.toInt ∧ i.toInt < (8 : Nat) then some (.ok (zN L i.toNatClampNeg), L) else none)
  else if r = some (sv + 21) then (if 0 ≤ i.toInt ∧ i.toInt < (5 : Nat) then some (.ok (zK L i.toNatClampNeg), L) else none)
  else if r = some (sv + 22) then (if 0 ≤ i.toInt ∧ i.toInt < (2 : Nat) then some (.ok (zG L i.toNatClampNeg), L) else none) else none
def lsai (sv : Nat) (r : Option Nat) (i x : Int32) : LX Unit := fun L =>
  if r = some (sv + 20) then (if 0 ≤ i.toInt ∧ i.toInt < (8 : Nat) then some (.ok (), (L.1, va_up (zN L) i.toNatClampNeg x, L.2.2)) else none)
  else if r = some (sv + 21) then (if 0 ≤ i.toInt ∧ i.toInt < (5 : Nat) then some (.ok (), (L.1, L.2.1, va_up (zK L) i.toNatClampNeg x, L.2.2.2)) else none)
  else if r = some (sv + 22) then (if 0 ≤ i.toInt ∧ i.toInt < (2 : Nat) then some (.ok (), (L.1, L.2.1, L.2.2.1, va_up (zG L) i.toNatClampNeg x, L.2.2.2.2)) else none) else none
/-- the machine at pc, over every memory that holds the state -/
def GL (sv : Nat) (k : QC) (env : List (Nat × Value)) (st : List Value) (L : LSt) (pc cells slots : Nat) : Prop := ∀ mm, LR sv L mm → GG k env st mm pc cells slots
theorem GL_widen {sv : Nat} {k : QC} {env : List (Nat × Value)} {st : List Value} {L : LSt} {pc a b a' b' : Nat} (h1 : a ≤ a') (h2 : b ≤ b') (h : GL sv k env st L pc a' b') : GL sv k env st L pc a b := fun mm hL => GG_widen h1 h2 (h mm hL)
theorem GL_sub {sv : Nat} {k : QC} {env env' : List (Nat × Value)} {st : List Value} {L : LSt} {pc a b : Nat} (ps : List Nat) (hp : lv_pick env ps = env') (h : GL sv k env' st L pc a b) : GL sv k env st L pc a b := fun mm hL => GG_sub ps hp (h mm hL)
section K7
variable {sv : Nat} {k : QC} {T : Nat → LSt → Prop} {α β γ δ ρ σ : Type} {env env' : List (Nat × Value)} {cc : ByteArray} {own : String}
def KXE (sv : Nat) (k : QC) (T : Nat → LSt → Prop) (push : α → List Value) (env : List (Nat × Value)) (d i j kc ks' : Nat) (x : LX α) : Prop :=
  ∀ (st : List Value) (mm : LSt) (a b : Nat), scat st ≤ d → a + kc ≤ (kR k).cells → b + ks' ≤ (kR k).slots → lwp x (fun v m' => GL sv k env (push v ++ st) m' j (a + kc) (b + ks')) T mm → GL sv k env st mm i a b
def KCE (sv : Nat) (k : QC) (T : Nat → LSt → Prop) (env : List (Nat × Value)) (d i jT jF kc ks' : Nat) (x : LX Bool) : Prop :=
  ∀ (st : List Value) (mm : LSt) (a b : Nat), scat st ≤ d → a + kc ≤ (kR k).cells → b + ks' ≤ (kR k).slots → lwp x (fun v m' => GL sv k env st m' (if v = true then jT else jF) (a + kc) (b + ks')) T mm → GL sv k env st mm i a b
def KSB (sv : Nat) (k : QC) (T : Nat → LSt → Prop) (RET : ρ → LSt → Prop) (env : List (Nat × Value)) (i kc ks' : Nat) (x : LX ρ) : Prop :=
  ∀ (mm : LSt) (a b : Nat), a + kc ≤ (kR k).cells → b + ks' ≤ (kR k).slots → lwp x RET T mm → GL sv k env [] mm i a b
def KST (sv : Nat) (k : QC) (T : Nat → LSt → Prop) (upd : σ → List (Nat × Value)) (env : List (Nat × Value)) (i j kc ks' : Nat) (x : LX σ) : Prop :=
  ∀ (mm : LSt) (a b : Nat), a + kc ≤ (kR k).cells → b + ks' ≤ (kR k).slots → lwp x (fun s m' => GL sv k (upd s) [] m' j (a + kc) (b + ks')) T mm → GL sv k env [] mm i a b
def KOP1 (sv : Nat) (k : QC) (T : Nat → LSt → Prop) (pA : α → List Value) (pB : β → List Value) (env : List (Nat × Value)) (d i j kc ks' : Nat) (f : α → LX β) : Prop :=
  ∀ (v : α) (st : List Value) (mm : LSt) (a b : Nat), scat st ≤ d → a + kc ≤ (kR k).cells → b + ks' ≤ (kR k).slots → lwp (f v) (fun w m' => GL sv k env (pB w ++ st) m' j (a + kc) (b + ks')) T mm → GL sv k env (pA v ++ st) mm i a b
def KOP2 (sv : Nat) (k : QC) (T : Nat → LSt → Prop) (pA : α → List Value) (pB : β → List Value) (pC : γ → List Value) (env : List (Nat × Value)) (d i j kc ks' : Nat) (f : α → β → LX γ) : Prop :=
  ∀ (v : α) (w : β) (st : List Value) (mm : LSt) (a b : Nat), scat st ≤ d → a + kc ≤ (kR k).cells → b + ks' ≤ (kR k).slots → lwp (f v w) (fun z m' => GL sv k env (pC z ++ st) m' j (a + kc) (b + ks')) T mm → GL sv k env (pB w ++ (pA v ++ st)) mm i a b
theorem KGG_cs {st : List Value} {mm : LSt} {pc a b a' b' : Nat} (h : GL sv k env st mm pc a b) (ha : a = a') (hb : b = b') : GL sv k env st mm pc a' b' := by subst ha; subst hb; exact h
theorem KXE_1 {A0 B : Type} {p0 : A0 → List Value} {pB : B → List Value} {x0 : LX A0} {f : A0 → LX B} {d i0 i1 i2 c0 s0 c1 s1 : Nat}  (h0 : KXE sv k T p0 env (d) i0 i1 c0 s0 x0) (hop : ∀ (v0 : A0) (st : List Value) (mm : LSt) (a b : Nat), scat st ≤ d → a + c1 ≤ (kR k).cells → b + s1 ≤ (kR k).slots → lwp (f v0) (fun z m' => GL sv k env (pB z ++ st) m' i2 (a + c1) (b + s1)) T mm → GL sv k env (p0 v0 ++ st) mm i1 a b) : KXE sv k T pB env d i0 i2 (c0 + c1) (s0 + s1) (lb x0 fun v0 => f v0) := by
  intro st mm a b hd hc hs h
  refine h0 st mm (a) (b) (by exact hd) (by omega) (by omega) (lwp_mono (lwp_lb h) (fun v0 m1 q1 => ?_) (fun _ _ q => q))
  exact hop v0 st m1 (a + c0) (b + s0) hd (by omega) (by omega) (lwp_mono q1 (fun z m' g => KGG_cs g (by omega) (by omega)) (fun _ _ q => q))
theorem KXE_2 {A0 A1 B : Type} {p0 : A0 → List Value} {p1 : A1 → List Value} {pB : B → List Value} {x0 : LX A0} {x1 : LX A1} {f : A0 → A1 → LX B} {W0 d i0 i1 i2 i3 c0 s0 c1 s1 c2 s2 : Nat} (w0 : ∀ v, scat (p0 v) ≤ W0) (h0 : KXE sv k T p0 env (d) i0 i1 c0 s0 x0) (h1 : KXE sv k T p1 env (d + W0) i1 i2 c1 s1 x1) (hop : ∀ (v0 : A0) (v1 : A1) (st : List Value) (mm : LSt) (a b : Nat), scat st ≤ d → a + c2 ≤ (kR k).cells → b + s2 ≤ (kR k).slots → lwp (f v0 v1) (fun z m' => GL sv k env (pB z ++ st) m' i3 (a + c2) (b + s2)) T mm → GL sv k env (p1 v1 ++ (p0 v0 ++ st)) mm i2 a b) : KXE sv k T pB env d i0 i3 (c0 + c1 + c2) (s0 + s1 + s2) (lb x0 fun v0 => lb x1 fun v1 => f v0 v1) := by
  intro st mm a b hd hc hs h
  refine h0 st mm (a) (b) (by exact hd) (by omega) (by omega) (lwp_mono (lwp_lb h) (fun v0 m1 q1 => ?_) (fun _ _ q => q))
  refine h1 (p0 v0 ++ st) m1 (a + c0) (b + s0) (by exact scat_le (hd) (w0 v0)) (by omega) (by omega) (lwp_mono (lwp_lb q1) (fun v1 m2 q2 => ?_) (fun _ _ q => q))
  exact hop v0 v1 st m2 (a + c0 + c1) (b + s0 + s1) hd (by omega) (by omega) (lwp_mono q2 (fun z m' g => KGG_cs g (by omega) (by omega)) (fun _ _ q => q))
theorem KXE_3 {A0 A1 A2 B : Type} {p0 : A0 → List Value} {p1 : A1 → List Value} {p2 : A2 → List Value} {pB : B → List Value} {x0 : LX A0} {x1 : LX A1} {x2 : LX A2} {f : A0 → A1 → A2 → LX B} {W0 W1 d i0 i1 i2 i3 i4 c0 s0 c1 s1 c2 s2 c3 s3 : Nat} (w0 : ∀ v, scat (p0 v) ≤ W0) (w1 : ∀ v, scat (p1 v) ≤ W1) (h0 : KXE sv k T p0 env (d) i0 i1 c0 s0 x0) (h1 : KXE sv k T p1 env (d + W0) i1 i2 c1 s1 x1) (h2 : KXE sv k T p2 env (d + W0 + W1) i2 i3 c2 s2 x2) (hop : ∀ (v0 : A0) (v1 : A1) (v2 : A2) (st : List Value) (mm : LSt) (a b : Nat), scat st ≤ d → a + c3 ≤ (kR k).cells → b + s3 ≤ (kR k).slots → lwp (f v0 v1 v2) (fun z m' => GL sv k env (pB z ++ st) m' i4 (a + c3) (b + s3)) T mm → GL sv k env (p2 v2 ++ (p1 v1 ++ (p0 v0 ++ st))) mm i3 a b) : KXE sv k T pB env d i0 i4 (c0 + c1 + c2 + c3) (s0 + s1 + s2 + s3) (lb x0 fun v0 => lb x1 fun v1 => lb x2 fun v2 => f v0 v1 v2) := by
  intro st mm a b hd hc hs h
  refine h0 st mm (a) (b) (by exact hd) (by omega) (by omega) (lwp_mono (lwp_lb h) (fun v0 m1 q1 => ?_) (fun _ _ q => q))
  refine h1 (p0 v0 ++ st) m1 (a + c0) (b + s0) (by exact scat_le (hd) (w0 v0)) (by omega) (by omega) (lwp_mono (lwp_lb q1) (fun v1 m2 q2 => ?_) (fun _ _ q => q))
  refine h2 (p1 v1 ++ (p0 v0 ++ st)) m2 (a + c0 + c1) (b + s0 + s1) (by exact scat_le (scat_le (hd) (w0 v0)) (w1 v1)) (by omega) (by omega) (lwp_mono (lwp_lb q2) (fun v2 m3 q3 => ?_) (fun _ _ q => q))
  exact hop v0 v1 v2 st m3 (a + c0 + c1 + c2) (b + s0 + s1 + s2) hd (by omega) (by omega) (lwp_mono q3 (fun z m' g => KGG_cs g (by omega) (by omega)) (fun _ _ q => q))
theorem KXE_4 {A0 A1 A2 A3 B : Type} {p0 : A0 → List Value} {p1 : A1 → List Value} {p2 : A2 → List Value} {p3 : A3 → List Value} {pB : B → List Value} {x0 : LX A0} {x1 : LX A1} {x2 : LX A2} {x3 : LX A3} {f : A0 → A1 → A2 → A3 → LX B} {W0 W1 W2 d i0 i1 i2 i3 i4 i5 c0 s0 c1 s1 c2 s2 c3 s3 c4 s4 : Nat} (w0 : ∀ v, scat (p0 v) ≤ W0) (w1 : ∀ v, scat (p1 v) ≤ W1) (w2 : ∀ v, scat (p2 v) ≤ W2) (h0 : KXE sv k T p0 env (d) i0 i1 c0 s0 x0) (h1 : KXE sv k T p1 env (d + W0) i1 i2 c1 s1 x1) (h2 : KXE sv k T p2 env (d + W0 + W1) i2 i3 c2 s2 x2) (h3 : KXE sv k T p3 env (d + W0 + W1 + W2) i3 i4 c3 s3 x3) (hop : ∀ (v0 : A0) (v1 : A1) (v2 : A2) (v3 : A3) (st : List Value) (mm : LSt) (a b : Nat), scat st ≤ d → a + c4 ≤ (kR k).cells → b + s4 ≤ (kR k).slots → lwp (f v0 v1 v2 v3) (fun z m' => GL sv k env (pB z ++ st) m' i5 (a + c4) (b + s4)) T mm → GL sv k env (p3 v3 ++ (p2 v2 ++ (p1 v1 ++ (p0 v0 ++ st)))) mm i4 a b) : KXE sv k T pB env d i0 i5 (c0 + c1 + c2 + c3 + c4) (s0 + s1 + s2 + s3 + s4) (lb x0 fun v0 => lb x1 fun v1 => lb x2 fun v2 => lb x3 fun v3 => f v0 v1 v2 v3) := by
  intro st mm a b hd hc hs h
  refine h0 st mm (a) (b) (by exact hd) (by omega) (by omega) (lwp_mono (lwp_lb h) (fun v0 m1 q1 => ?_) (fun _ _ q => q))
  refine h1 (p0 v0 ++ st) m1 (a + c0) (b + s0) (by exact scat_le (hd) (w0 v0)) (by omega) (by omega) (lwp_mono (lwp_lb q1) (fun v1 m2 q2 => ?_) (fun _ _ q => q))
  refine h2 (p1 v1 ++ (p0 v0 ++ st)) m2 (a + c0 + c1) (b + s0 + s1) (by exact scat_le (scat_le (hd) (w0 v0)) (w1 v1)) (by omega) (by omega) (lwp_mono (lwp_lb q2) (fun v2 m3 q3 => ?_) (fun _ _ q => q))
  refine h3 (p2 v2 ++ (p1 v1 ++ (p0 v0 ++ st))) m3 (a + c0 + c1 + c2) (b + s0 + s1 + s2) (by exact scat_le (scat_le (scat_le (hd) (w0 v0)) (w1 v1)) (w2 v2)) (by omega) (by omega) (lwp_mono (lwp_lb q3) (fun v3 m4 q4 => ?_) (fun _ _ q => q))
  exact hop v0 v1 v2 v3 st m4 (a + c0 + c1 + c2 + c3) (b + s0 + s1 + s2 + s3) hd (by omega) (by omega) (lwp_mono q4 (fun z m' g => KGG_cs g (by omega) (by omega)) (fun _ _ q => q))
theorem KXE_5 {A0 A1 A2 A3 A4 B : Type} {p0 : A0 → List Value} {p1 : A1 → List Value} {p2 : A2 → List Value} {p3 : A3 → List Value} {p4 : A4 → List Value} {pB : B → List Value} {x0 : LX A0} {x1 : LX A1} {x2 : LX A2} {x3 : LX A3} {x4 : LX A4} {f : A0 → A1 → A2 → A3 → A4 → LX B} {W0 W1 W2 W3 d i0 i1 i2 i3 i4 i5 i6 c0 s0 c1 s1 c2 s2 c3 s3 c4 s4 c5 s5 : Nat} (w0 : ∀ v, scat (p0 v) ≤ W0) (w1 : ∀ v, scat (p1 v) ≤ W1) (w2 : ∀ v, scat (p2 v) ≤ W2) (w3 : ∀ v, scat (p3 v) ≤ W3) (h0 : KXE sv k T p0 env (d) i0 i1 c0 s0 x0) (h1 : KXE sv k T p1 env (d + W0) i1 i2 c1 s1 x1) (h2 : KXE sv k T p2 env (d + W0 + W1) i2 i3 c2 s2 x2) (h3 : KXE sv k T p3 env (d + W0 + W1 + W2) i3 i4 c3 s3 x3) (h4 : KXE sv k T p4 env (d + W0 + W1 + W2 + W3) i4 i5 c4 s4 x4) (hop : ∀ (v0 : A0) (v1 : A1) (v2 : A2) (v3 : A3) (v4 : A4) (st : List Value) (mm : LSt) (a b : Nat), scat st ≤ d → a + c5 ≤ (kR k).cells → b + s5 ≤ (kR k).slots → lwp (f v0 v1 v2 v3 v4) (fun z m' => GL sv k env (pB z ++ st) m' i6 (a + c5) (b + s5)) T mm → GL sv k env (p4 v4 ++ (p3 v3 ++ (p2 v2 ++ (p1 v1 ++ (p0 v0 ++ st))))) mm i5 a b) : KXE sv k T pB env d i0 i6 (c0 + c1 + c2 + c3 + c4 + c5) (s0 + s1 + s2 + s3 + s4 + s5) (lb x0 fun v0 => lb x1 fun v1 => lb x2 fun v2 => lb x3 fun v3 => lb x4 fun v4 => f v0 v1 v2 v3 v4) := by
  intro st mm a b hd hc hs h
  refine h0 st mm (a) (b) (by exact hd) (by omega) (by omega) (lwp_mono (lwp_lb h) (fun v0 m1 q1 => ?_) (fun _ _ q => q))
  refine h1 (p0 v0 ++ st) m1 (a + c0) (b + s0) (by exact scat_le (hd) (w0 v0)) (by omega) (by omega) (lwp_mono (lwp_lb q1) (fun v1 m2 q2 => ?_) (fun _ _ q => q))
  refine h2 (p1 v1 ++ (p0 v0 ++ st)) m2 (a + c0 + c1) (b + s0 + s1) (by exact scat_le (scat_le (hd) (w0 v0)) (w1 v1)) (by omega) (by omega) (lwp_mono (lwp_lb q2) (fun v2 m3 q3 => ?_) (fun _ _ q => q))
  refine h3 (p2 v2 ++ (p1 v1 ++ (p0 v0 ++ st))) m3 (a + c0 + c1 + c2) (b + s0 + s1 + s2) (by exact scat_le (scat_le (scat_le (hd) (w0 v0)) (w1 v1)) (w2 v2)) (by omega) (by omega) (lwp_mono (lwp_lb q3) (fun v3 m4 q4 => ?_) (fun _ _ q => q))
  refine h4 (p3 v3 ++ (p2 v2 ++ (p1 v1 ++ (p0 v0 ++ st)))) m4 (a + c0 + c1 + c2 + c3) (b + s0 + s1 + s2 + s3) (by exact scat_le (scat_le (scat_le (scat_le (hd) (w0 v0)) (w1 v1)) (w2 v2)) (w3 v3)) (by omega) (by omega) (lwp_mono (lwp_lb q4) (fun v4 m5 q5 => ?_) (fun _ _ q => q))
  exact hop v0 v1 v2 v3 v4 st m5 (a + c0 + c1 + c2 + c3 + c4) (b + s0 + s1 + s2 + s3 + s4) hd (by omega) (by omega) (lwp_mono q5 (fun z m' g => KGG_cs g (by omega) (by omega)) (fun _ _ q => q))
theorem KXE_6 {A0 A1 A2 A3 A4 A5 B : Type} {p0 : A0 → List Value} {p1 : A1 → List Value} {p2 : A2 → List Value} {p3 : A3 → List Value} {p4 : A4 → List Value} {p5 : A5 → List Value} {pB : B → List Value} {x0 : LX A0} {x1 : LX A1} {x2 : LX A2} {x3 : LX A3} {x4 : LX A4} {x5 : LX A5} {f : A0 → A1 → A2 → A3 → A4 → A5 → LX B} {W0 W1 W2 W3 W4 d i0 i1 i2 i3 i4 i5 i6 i7 c0 s0 c1 s1 c2 s2 c3 s3 c4 s4 c5 s5 c6 s6 : Nat} (w0 : ∀ v, scat (p0 v) ≤ W0) (w1 : ∀ v, scat (p1 v) ≤ W1) (w2 : ∀ v, scat (p2 v) ≤ W2) (w3 : ∀ v, scat (p3 v) ≤ W3) (w4 : ∀ v, scat (p4 v) ≤ W4) (h0 : KXE sv k T p0 env (d) i0 i1 c0 s0 x0) (h1 : KXE sv k T p1 env (d + W0) i1 i2 c1 s1 x1) (h2 : KXE sv k T p2 env (d + W0 + W1) i2 i3 c2 s2 x2) (h3 : KXE sv k T p3 env (d + W0 + W1 + W2) i3 i4 c3 s3 x3) (h4 : KXE sv k T p4 env (d + W0 + W1 + W2 + W3) i4 i5 c4 s4 x4) (h5 : KXE sv k T p5 env (d + W0 + W1 + W2 + W3 + W4) i5 i6 c5 s5 x5) (hop : ∀ (v0 : A0) (v1 : A1) (v2 : A2) (v3 : A3) (v4 : A4) (v5 : A5) (st : List Value) (mm : LSt) (a b : Nat), scat st ≤ d → a + c6 ≤ (kR k).cells → b + s6 ≤ (kR k).slots → lwp (f v0 v1 v2 v3 v4 v5) (fun z m' => GL sv k env (pB z ++ st) m' i7 (a + c6) (b + s6)) T mm → GL sv k env (p5 v5 ++ (p4 v4 ++ (p3 v3 ++ (p2 v2 ++ (p1 v1 ++ (p0 v0 ++ st)))))) mm i6 a b) : KXE sv k T pB env d i0 i7 (c0 + c1 + c2 + c3 + c4 + c5 + c6) (s0 + s1 + s2 + s3 + s4 + s5 + s6) (lb x0 fun v0 => lb x1 fun v1 => lb x2 fun v2 => lb x3 fun v3 => lb x4 fun v4 => lb x5 fun v5 => f v0 v1 v2 v3 v4 v5) := by
  intro st mm a b hd hc hs h
  refine h0 st mm (a) (b) (by exact hd) (by omega) (by omega) (lwp_mono (lwp_lb h) (fun v0 m1 q1 => ?_) (fun _ _ q => q))
  refine h1 (p0 v0 ++ st) m1 (a + c0) (b + s0) (by exact scat_le (hd) (w0 v0)) (by omega) (by omega) (lwp_mono (lwp_lb q1) (fun v1 m2 q2 => ?_) (fun _ _ q => q))
  refine h2 (p1 v1 ++ (p0 v0 ++ st)) m2 (a + c0 + c1) (b + s0 + s1) (by exact scat_le (scat_le (hd) (w0 v0)) (w1 v1)) (by omega) (by omega) (lwp_mono (lwp_lb q2) (fun v2 m3 q3 => ?_) (fun _ _ q => q))
  refine h3 (p2 v2 ++ (p1 v1 ++ (p0 v0 ++ st))) m3 (a + c0 + c1 + c2) (b + s0 + s1 + s2) (by exact scat_le (scat_le (scat_le (hd) (w0 v0)) (w1 v1)) (w2 v2)) (by omega) (by omega) (lwp_mono (lwp_lb q3) (fun v3 m4 q4 => ?_) (fun _ _ q => q))
  refine h4 (p3 v3 ++ (p2 v2 ++ (p1 v1 ++ (p0 v0 ++ st)))) m4 (a + c0 + c1 + c2 + c3) (b + s0 + s1 + s2 + s3) (by exact scat_le (scat_le (scat_le (scat_le (hd) (w0 v0)) (w1 v1)) (w2 v2)) (w3 v3)) (by omega) (by omega) (lwp_mono (lwp_lb q4) (fun v4 m5 q5 => ?_) (fun _ _ q => q))
  refine h5 (p4 v4 ++ (p3 v3 ++ (p2 v2 ++ (p1 v1 ++ (p0 v0 ++ st))))) m5 (a + c0 + c1 + c2 + c3 + c4) (b + s0 + s1 + s2 + s3 + s4) (by exact scat_le (scat_le (scat_le (scat_le (scat_le (hd) (w0 v0)) (w1 v1)) (w2 v2)) (w3 v3)) (w4 v4)) (by omega) (by omega) (lwp_mono (lwp_lb q5) (fun v5 m6 q6 => ?_) (fun _ _ q => q))
  exact hop v0 v1 v2 v3 v4 v5 st m6 (a + c0 + c1 + c2 + c3 + c4 + c5) (b + s0 + s1 + s2 + s3 + s4 + s5) hd (by omega) (by omega) (lwp_mono q6 (fun z m' g => KGG_cs g (by omega) (by omega)) (fun _ _ q => q))
theorem KXE_pure {pA : α → List Value} {d i j : Nat} {v : α} (h : ∀ (st : List Value) (mm : LSt) (a b : Nat), GL sv k env (pA v ++ st) mm j a b → GL sv k env st mm i a b) : KXE sv k T pA env d i j 0 0 (lp v) := fun st mm a b _ _ _ q => h st mm a b q
theorem KXE_const {d i j : Nat} {x : LX Int32} (h : KXE sv k T pI env d i j 0 0 x) : KXE sv k T pI env d i j 0 0 x := h
/- conditions -/
theorem KCE_2 {A0 A1 : Type} {p0 : A0 → List Value} {p1 : A1 → List Value} {x0 : LX A0} {x1 : LX A1} {f : A0 → A1 → Bool} {W0 d i0 i1 i2 jT jF c0 s0 c1 s1 : Nat} (w0 : ∀ v, scat (p0 v) ≤ W0) (h0 : KXE sv k T p0 env d i0 i1 c0 s0 x0) (h1 : KXE sv k T p1 env (d + W0) i1 i2 c1 s1 x1)
    (leaf : ∀ (v0 : A0) (v1 : A1) (st : List Value) (mm : LSt) (a b : Nat), GL sv k env st mm (if f v0 v1 = true then jT else jF) a b → GL sv k env (p1 v1 ++ (p0 v0 ++ st)) mm i2 a b) : KCE sv k T env d i0 jT jF (c0 + c1) (s0 + s1) (lb x0 fun v0 => lb x1 fun v1 => lp (f v0 v1)) := by
  intro st mm a b hd hc hs h
  refine h0 st mm a b hd (by omega) (by omega) (lwp_mono (lwp_lb h) (fun v0 m1 q1 => ?_) (fun _ _ q => q))
  refine h1 (p0 v0 ++ st) m1 (a + c0) (b + s0) (scat_le hd (w0 v0)) (by omega) (by omega) (lwp_mono (lwp_lb q1) (fun v1 m2 q2 => ?_) (fun _ _ q => q))
  exact leaf v0 v1 st m2 _ _ (KGG_cs q2 (by omega) (by omega))
theorem KCE_1 {A0 : Type} {p0 : A0 → List Value} {x0 : LX A0} {f : A0 → Bool} {d i0 i1 jT jF c0 s0 : Nat} (h0 : KXE sv k T p0 env d i0 i1 c0 s0 x0)
    (leaf : ∀ (v0 : A0) (st : List Value) (mm : LSt) (a b : Nat), GL sv k env st mm (if f v0 = true then jT else jF) a b → GL sv k env (p0 v0 ++ st) mm i1 a b) : KCE sv k T env d i0 jT jF c0 s0 (lb x0 fun v0 => lp (f v0)) := by
  intro st mm a b hd hc hs h
  refine h0 st mm a b hd (by omega) (by omega) (lwp_mono (lwp_lb h) (fun v0 m1 q1 => ?_) (fun _ _ q => q))
  exact leaf v0 st m1 _ _ q1
theorem KCE_and {x y : LX Bool} {d i jm jT jF c0 s0 c1 s1 : Nat} (h0 : KCE sv k T env d i jm jF c0 s0 x) (h1 : KCE sv k T env d jm jT jF c1 s1 y) : KCE sv k T env d i jT jF (c0 + c1) (s0 + s1) (lb x fun v => if v then y else lp false) := by
  intro st mm a b hd hc hs h
  refine h0 st mm a b hd (by omega) (by omega) (lwp_mono (lwp_lb h) (fun v m1 q1 => ?_) (fun _ _ q => q))
  cases v with
  | true => exact h1 st m1 (a + c0) (b + s0) hd (by omega) (by omega) (lwp_mono q1 (fun z m' g => KGG_cs g (by omega) (by omega)) (fun _ _ q => q))
  | false => exact GL_widen (a' := a + (c0 + c1)) (b' := b + (s0 + s1)) (by omega) (by omega) q1
theorem KCE_or {x y : LX Bool} {d i jm jT jF c0 s0 c1 s1 : Nat} (h0 : KCE sv k T env d i jT jm c0 s0 x) (h1 : KCE sv k T env d jm jT jF c1 s1 y) : KCE sv k T env d i jT jF (c0 + c1) (s0 + s1) (lb x fun v => if v then lp true else y) := by
  intro st mm a b hd hc hs h
  refine h0 st mm a b hd (by omega) (by omega) (lwp_mono (lwp_lb h) (fun v m1 q1 => ?_) (fun _ _ q => q))
  cases v with
  | true => exact GL_widen (a' := a + (c0 + c1)) (b' := b + (s0 + s1)) (by omega) (by omega) q1
  | false => exact h1 st m1 (a + c0) (b + s0) hd (by omega) (by omega) (lwp_mono q1 (fun z m' g => KGG_cs g (by omega) (by omega)) (fun _ _ q => q))
theorem KCE_not {x : LX Bool} {d i jT jF c0 s0 : Nat} (h0 : KCE sv k T env d i jF jT c0 s0 x) : KCE sv k T env d i jT jF c0 s0 (lb x fun v => lp (!v)) := by
  intro st mm a b hd hc hs h
  refine h0 st mm a b hd hc hs (lwp_mono (lwp_lb h) (fun v m1 q1 => ?_) (fun _ _ q => q))
  cases v <;> exact q1
/-- a condition's value as a number -/
theorem KXE_b2i {x : LX Bool} {d i jT jF j c0 s0 : Nat} (h0 : KCE sv k T env d i jT jF c0 s0 x) (hT : ∀ (st : List Value) (mm : LSt) (a b : Nat), GL sv k env (.int 1 :: st) mm j a b → GL sv k env st mm jT a b) (hF : ∀ (st : List Value) (mm : LSt) (a b : Nat), GL sv k env (.int 0 :: st) mm j a b → GL sv k env st mm jF a b) : KXE sv k T pI env d i j c0 s0 (lb x fun v => lp (b2i v)) := by
  intro st mm a b hd hc hs h
  refine h0 st mm a b hd hc hs (lwp_mono (lwp_lb h) (fun v m1 q1 => ?_) (fun _ _ q => q))
  cases v with
  | true => exact hT _ _ _ _ q1
  | false => exact hF _ _ _ _ q1
theorem KXE_tern {pA : α → List Value} {x : LX Bool} {y z : LX α} {d i jT jF jg j c0 s0 c1 s1 c2 s2 : Nat} (h0 : KCE sv k T env d i jT jF c0 s0 x) (h1 : KXE sv k T pA env d jT jg c1 s1 y) (hg : ∀ (st : List Value) (mm : LSt) (a b : Nat), GL sv k env st mm j a b → GL sv k env st mm jg a b) (h2 : KXE sv k T pA env d jF j c2 s2 z) :
    KXE sv k T pA env d i j (c0 + max c1 c2) (s0 + max s1 s2) (lb x fun v => if v then y else z) := by
  intro st mm a b hd hc hs h
  refine h0 st mm a b hd (by omega) (by omega) (lwp_mono (lwp_lb h) (fun v m1 q1 => ?_) (fun _ _ q => q))
  cases v with
  | true => exact h1 st m1 (a + c0) (b + s0) hd (by omega) (by omega) (lwp_mono q1 (fun z m' g => hg _ _ _ _ (GL_widen (a' := a + (c0 + max c1 c2)) (b' := b + (s0 + max s1 s2)) (by omega) (by omega) g)) (fun _ _ q => q))
  | false => exact h2 st m1 (a + c0) (b + s0) hd (by omega) (by omega) (lwp_mono q1 (fun z m' g => GL_widen (a' := a + (c0 + max c1 c2)) (b' := b + (s0 + max s1 s2)) (by omega) (by omega) g) (fun _ _ q => q))
theorem KCE_tern {x y z : LX Bool} {d i jm jn jT jF c0 s0 c1 s1 c2 s2 : Nat} (h0 : KCE sv k T env d i jm jn c0 s0 x) (h1 : KCE sv k T env d jm jT jF c1 s1 y) (h2 : KCE sv k T env d jn jT jF c2 s2 z) : KCE sv k T env d i jT jF (c0 + max c1 c2) (s0 + max s1 s2) (lb x fun v => if v then y else z) := by
  intro st mm a b hd hc hs h
  refine h0 st mm a b hd (by omega) (by omega) (lwp_mono (lwp_lb h) (fun v m1 q1 => ?_) (fun _ _ q => q))
  cases v with
  | true => exact h1 st m1 (a + c0) (b + s0) hd (by omega) (by omega) (lwp_mono q1 (fun z m' g => GL_widen (a' := a + (c0 + max c1 c2)) (b' := b + (s0 + max s1 s2)) (by omega) (by omega) g) (fun _ _ q => q))
  | false => exact h2 st m1 (a + c0) (b + s0) hd (by omega) (by omega) (lwp_mono q1 (fun z m' g => GL_widen (a' := a + (c0 + max c1 c2)) (b' := b + (s0 + max s1 s2)) (by omega) (by omega) g) (fun _ _ q => q))
/- x op= e on a field, and on a place of an array -/
theorem KXE_dup {A B C : Type} {pA : A → List Value} {pB : B → List Value} {pC : C → List Value} {x : LX (Option Nat)} {g : Option Nat → LX A} {y : LX B} {f : A → B → LX C} {p : Option Nat → C → LX Unit} {WA d i0 i1 i2 i3 i4 i5 c0 s0 c1 s1 c2 s2 c3 s3 c4 s4 : Nat} (wA : ∀ v, scat (pA v) ≤ WA)
    (h0 : KXE sv k T pR env d i0 i1 c0 s0 x) (hd2 : ∀ (r : Option Nat) (st : List Value) (mm : LSt) (a b : Nat), GL sv k env (va_rf r :: va_rf r :: st) mm (i1 + 1) a b → GL sv k env (va_rf r :: st) mm i1 a b) (hg : KOP1 sv k T pR pA env (d + 1) (i1 + 1) i2 c1 s1 g) (he : KXE sv k T pB env (d + 1 + WA) i2 i3 c2 s2 y) (hop : KOP2 sv k T pA pB pC env (d + 1) i3 i4 c3 s3 f) (hp : KOP2 sv k T pR pC pU env d i4 i5 c4 s4 p) :
    KXE sv k T pU env d i0 i5 (c0 + c1 + c2 + c3 + c4) (s0 + s1 + s2 + s3 + s4) (lb x fun r => lb (g r) fun v => lb y fun w => lb (f v w) fun z => p r z) := by
  intro st mm a b hd hc hs h
  refine h0 st mm a b hd (by omega) (by omega) (lwp_mono (lwp_lb h) (fun r m1 q1 => hd2 r st m1 _ _ ?_) (fun _ _ q => q))
  refine hg r (pR r ++ st) m1 (a + c0) (b + s0) (scat_le hd (wR r)) (by omega) (by omega) (lwp_mono (lwp_lb q1) (fun v m2 q2 => ?_) (fun _ _ q => q))
  refine he (pA v ++ (pR r ++ st)) m2 _ _ (scat_le (scat_le hd (wR r)) (wA v)) (by omega) (by omega) (lwp_mono (lwp_lb q2) (fun w m3 q3 => ?_) (fun _ _ q => q))
  refine hop v w (pR r ++ st) m3 _ _ (scat_le hd (wR r)) (by omega) (by omega) (lwp_mono (lwp_lb q3) (fun z m4 q4 => ?_) (fun _ _ q => q))
  exact hp r z st m4 _ _ hd (by omega) (by omega) (lwp_mono q4 (fun z m' g => KGG_cs g (by omega) (by omega)) (fun _ _ q => q))
def KOP3 (sv : Nat) (k : QC) (T : Nat → LSt → Prop) {A B C E : Type} (pA : A → List Value) (pB : B → List Value) (pC : C → List Value) (pE : E → List Value) (env : List (Nat × Value)) (d i j kc ks' : Nat) (f : A → B → C → LX E) : Prop :=
  ∀ (v : A) (w : B) (u : C) (st : List Value) (mm : LSt) (a b : Nat), scat st ≤ d → a + kc ≤ (kR k).cells → b + ks' ≤ (kR k).slots → lwp (f v w u) (fun z m' => GL sv k env (pE z ++ st) m' j (a + kc) (b + ks')) T mm → GL sv k env (pC u ++ (pB w ++ (pA v ++ st))) mm i a b
theorem KXE_dup2 {A B C : Type} {pA : A → List Value} {pB : B → List Value} {pC : C → List Value} {x : LX (Option Nat)} {x' : LX Int32} {g : Option Nat → Int32 → LX A} {y : LX B} {f : A → B → LX C} {p : Option Nat → Int32 → C → LX Unit} {WA d i0 i0' i1 i2 i3 i4 i5 c0 s0 c0' s0' c1 s1 c2 s2 c3 s3 c4 s4 : Nat} (wA : ∀ v, scat (pA v) ≤ WA)
    (h0 : KXE sv k T pR env d i0 i0' c0 s0 x) (h0' : KXE sv k T pI env (d + 1) i0' i1 c0' s0' x') (hd2 : ∀ (r : Option Nat) (n : Int32) (st : List Value) (mm : LSt) (a b : Nat), GL sv k env (.int n :: va_rf r :: .int n :: va_rf r :: st) mm (i1 + 1) a b → GL sv k env (.int n :: va_rf r :: st) mm i1 a b) (hg : KOP2 sv k T pR pI pA env (d + 1 + 1) (i1 + 1) i2 c1 s1 g) (he : KXE sv k T pB env (d + 1 + 1 + WA) i2 i3 c2 s2 y) (hop : KOP2 sv k T pA pB pC env (d + 1 + 1) i3 i4 c3 s3 f) (hp : KOP3 sv k T pR pI pC pU env d i4 i5 c4 s4 p) :
    KXE sv k T pU env d i0 i5 (c0 + c0' + c1 + c2 + c3 + c4) (s0 + s0' + s1 + s2 + s3 + s4) (lb x fun r => lb x' fun n => lb (g r n) fun v => lb y fun w => lb (f v w) fun z => p r n z) := by
  intro st mm a b hd hc hs h
  refine h0 st mm a b hd (by omega) (by omega) (lwp_mono (lwp_lb h) (fun r m0 q0 => ?_) (fun _ _ q => q))
  refine h0' (pR r ++ st) m0 _ _ (scat_le hd (wR r)) (by omega) (by omega) (lwp_mono (lwp_lb q0) (fun n m1 q1 => hd2 r n st m1 _ _ ?_) (fun _ _ q => q))
  have hdd : scat (pI n ++ (pR r ++ st)) ≤ d + 1 + 1 := scat_le (scat_le hd (wR r)) (wI n)
  refine hg r n (pI n ++ (pR r ++ st)) m1 _ _ hdd (by omega) (by omega) (lwp_mono (lwp_lb q1) (fun v m2 q2 => ?_) (fun _ _ q => q))
  refine he (pA v ++ (pI n ++ (pR r ++ st))) m2 _ _ (scat_le hdd (wA v)) (by omega) (by omega) (lwp_mono (lwp_lb q2) (fun w m3 q3 => ?_) (fun _ _ q => q))
  refine hop v w (pI n ++ (pR r ++ st)) m3 _ _ hdd (by omega) (by omega) (lwp_mono (lwp_lb q3) (fun z m4 q4 => ?_) (fun _ _ q => q))
  exact hp r n z st m4 _ _ hd (by omega) (by omega) (lwp_mono q4 (fun z m' g => KGG_cs g (by omega) (by omega)) (fun _ _ q => q))
/- new C(..): the object, its second name, the arguments, the constructor -/
/-- the arguments behind a receiver on the stack -/
/- blocks -/
theorem KSB_let {pA : α → List Value} {RET : ρ → LSt → Prop} {x : LX α} {f : α → LX ρ} {ev : α → List (Nat × Value)} {i j j' c s c' s' : Nat} (he : KXE sv k T pA env 0 i j c s x) (hst : ∀ (v : α) (mm : LSt) (a b : Nat), GL sv k (ev v) [] mm j' a b → GL sv k env (pA v ++ []) mm j a b) (hk : ∀ v, KSB sv k T RET (ev v) j' c' s' (f v)) : KSB sv k T RET env i (c + c') (s + s') (lb x f) := by
  intro mm a b hc hs h
  exact he [] mm a b (Nat.le_refl 0) (by omega) (by omega) (lwp_mono (lwp_lb h) (fun v m1 q1 => hst v m1 _ _ (hk v m1 _ _ (by omega) (by omega) q1)) (fun _ _ q => q))
theorem KSB_do {RET : ρ → LSt → Prop} {x : LX Unit} {y : LX ρ} {i j c s c' s' : Nat} (he : KXE sv k T pU env 0 i j c s x) (hk : KSB sv k T RET env j c' s' y) : KSB sv k T RET env i (c + c') (s + s') (lb x fun _ => y) := by
  intro mm a b hc hs h
  exact he [] mm a b (Nat.le_refl 0) (by omega) (by omega) (lwp_mono (lwp_lb h) (fun v m1 q1 => hk m1 _ _ (by omega) (by omega) q1) (fun _ _ q => q))
theorem KSB_ret {pA : ρ → List Value} {RET : ρ → LSt → Prop} {x : LX ρ} {i j c s : Nat} (he : KXE sv k T pA env 0 i j c s x) (hr : ∀ (v : ρ) (mm : LSt) (a b : Nat), a ≤ (kR k).cells → b ≤ (kR k).slots → RET v mm → GL sv k env (pA v ++ []) mm j a b) : KSB sv k T RET env i c s x := by
  intro mm a b hc hs h
  exact he [] mm a b (Nat.le_refl 0) (by omega) (by omega) (lwp_mono h (fun v m1 q1 => hr v m1 _ _ hc hs q1) (fun _ _ q => q))
theorem KSB_if {RET : ρ → LSt → Prop} {x : LX Bool} {y z : LX ρ} {i jT jF c s c1 s1 c2 s2 : Nat} (hc0 : KCE sv k T env 0 i jT jF c s x) (h1 : KSB sv k T RET env jT c1 s1 y) (h2 : KSB sv k T RET env jF c2 s2 z) : KSB sv k T RET env i (c + max c1 c2) (s + max s1 s2) (lb x fun v => if v then y else z) := by
  intro mm a b hc hs h
  refine hc0 [] mm a b (Nat.le_refl 0) (by omega) (by omega) (lwp_mono (lwp_lb h) (fun v m1 q1 => ?_) (fun _ _ q => q))
  cases v with
  | true => exact h1 m1 _ _ (by omega) (by omega) q1
  | false => exact h2 m1 _ _ (by omega) (by omega) q1
theorem KSB_seq {RET : ρ → LSt → Prop} {upd : σ → List (Nat × Value)} {x : LX σ} {f : σ → LX ρ} {i j c s c' s' : Nat} (he : KST sv k T upd env i j c s x) (hk : ∀ v, KSB sv k T RET (upd v) j c' s' (f v)) : KSB sv k T RET env i (c + c') (s + s') (lb x f) := by
  intro mm a b hc hs h
  exact he mm a b (by omega) (by omega) (lwp_mono (lwp_lb h) (fun v m1 q1 => hk v m1 _ _ (by omega) (by omega) q1) (fun _ _ q => q))
theorem KSB_pre {RET : ρ → LSt → Prop} {x : LX ρ} {i j c s : Nat} (h0 : ∀ (mm : LSt) (a b : Nat), GL sv k env' [] mm j a b → GL sv k env [] mm i a b) (h : KSB sv k T RET env' j c s x) : KSB sv k T RET env i c s x := fun mm a b hc hs q => h0 mm a b (h mm a b hc hs q)
theorem KSB_end {RET : ρ → LSt → Prop} {v : ρ} {i : Nat} (h : ∀ (mm : LSt) (a b : Nat), a ≤ (kR k).cells → b ≤ (kR k).slots → RET v mm → GL sv k env [] mm i a b) : KSB sv k T RET env i 0 0 (lp v) := fun mm a b hc hs q => h mm a b hc hs q
/- statements -/
theorem KST_done {upd : σ → List (Nat × Value)} {s : σ} {i : Nat} (ps : List Nat) (hp : lv_pick env ps = upd s) : KST sv k T upd env i i 0 0 (lp s) := fun mm a b _ _ q => GL_sub ps hp q
theorem KST_let {pA : α → List Value} {upd : σ → List (Nat × Value)} {x : LX α} {f : α → LX σ} {ev : α → List (Nat × Value)} {i j j' je c s c' s' : Nat} (he : KXE sv k T pA env 0 i j c s x) (hst : ∀ (v : α) (mm : LSt) (a b : Nat), GL sv k (ev v) [] mm j' a b → GL sv k env (pA v ++ []) mm j a b) (hk : ∀ v, KST sv k T upd (ev v) j' je c' s' (f v)) : KST sv k T upd env i je (c + c') (s + s') (lb x f) := by
  intro mm a b hc hs h
  exact he [] mm a b (Nat.le_refl 0) (by omega) (by omega) (lwp_mono (lwp_lb h) (fun v m1 q1 => hst v m1 _ _ (hk v m1 _ _ (by omega) (by omega) (lwp_mono q1 (fun z m' g => KGG_cs g (by omega) (by omega)) (fun _ _ q => q)))) (fun _ _ q => q))
theorem KST_do {upd : σ → List (Nat × Value)} {x : LX Unit} {y : LX σ} {i j je c s c' s' : Nat} (he : KXE sv k T pU env 0 i j c s x) (hk : KST sv k T upd env j je c' s' y) : KST sv k T upd env i je (c + c') (s + s') (lb x fun _ => y) := by
  intro mm a b hc hs h
  exact he [] mm a b (Nat.le_refl 0) (by omega) (by omega) (lwp_mono (lwp_lb h) (fun v m1 q1 => hk m1 _ _ (by omega) (by omega) (lwp_mono q1 (fun z m' g => KGG_cs g (by omega) (by omega)) (fun _ _ q => q))) (fun _ _ q => q))
theorem KST_if {upd : σ → List (Nat × Value)} {x : LX Bool} {y z : LX σ} {i jT jF j c s c1 s1 c2 s2 : Nat} (hc0 : KCE sv k T env 0 i jT jF c s x) (h1 : KST sv k T upd env jT j c1 s1 y) (h2 : KST sv k T upd env jF j c2 s2 z) : KST sv k T upd env i j (c + max c1 c2) (s + max s1 s2) (lb x fun v => if v then y else z) := by
  intro mm a b hc hs h
  refine hc0 [] mm a b (Nat.le_refl 0) (by omega) (by omega) (lwp_mono (lwp_lb h) (fun v m1 q1 => ?_) (fun _ _ q => q))
  cases v with
  | true => exact h1 m1 _ _ (by omega) (by omega) (lwp_mono q1 (fun z m' g => GL_widen (a' := a + (c + max c1 c2)) (b' := b + (s + max s1 s2)) (by omega) (by omega) g) (fun _ _ q => q))
  | false => exact h2 m1 _ _ (by omega) (by omega) (lwp_mono q1 (fun z m' g => GL_widen (a' := a + (c + max c1 c2)) (b' := b + (s + max s1 s2)) (by omega) (by omega) g) (fun _ _ q => q))
theorem KST_seq {τ : Type} {upd1 : τ → List (Nat × Value)} {upd : σ → List (Nat × Value)} {x : LX τ} {f : τ → LX σ} {i j je c s c' s' : Nat} (he : KST sv k T upd1 env i j c s x) (hk : ∀ v, KST sv k T upd (upd1 v) j je c' s' (f v)) : KST sv k T upd env i je (c + c') (s + s') (lb x f) := by
  intro mm a b hc hs h
  exact he mm a b (by omega) (by omega) (lwp_mono (lwp_lb h) (fun v m1 q1 => hk v m1 _ _ (by omega) (by omega) (lwp_mono q1 (fun z m' g => KGG_cs g (by omega) (by omega)) (fun _ _ q => q))) (fun _ _ q => q))
theorem KST_pre {upd : σ → List (Nat × Value)} {x : LX σ} {i j je c s : Nat} (h0 : ∀ (mm : LSt) (a b : Nat), GL sv k env' [] mm j a b → GL sv k env [] mm i a b) (h : KST sv k T upd env' j je c s x) : KST sv k T upd env i je c s x := fun mm a b hc hs q => h0 mm a b (h mm a b hc hs q)
theorem KST_post {upd : σ → List (Nat × Value)} {x : LX σ} {i j je c s : Nat} (h : KST sv k T upd env i j c s x) (h0 : ∀ (v : σ) (mm : LSt) (a b : Nat), GL sv k (upd v) [] mm je a b → GL sv k (upd v) [] mm j a b) : KST sv k T upd env i je c s x := fun mm a b hc hs q => h mm a b hc hs (lwp_mono q (fun v m' g => h0 v m' _ _ g) (fun _ _ q => q))
theorem KST_loop {upd : σ → List (Nat × Value)} {c : σ → LX Bool} {f : σ → LX σ} {s0 : σ} {n i h jB jX cc sc cb sb : Nat} (hi : ∀ (mm : LSt) (a b : Nat), GL sv k (upd s0) [] mm h a b → GL sv k env [] mm i a b) (hc : ∀ s, KCE sv k T (upd s) 0 h jB jX cc sc (c s)) (hb : ∀ s, KST sv k T upd (upd s) jB h cb sb (f s)) : KST sv k T upd env i jX (n * (cc + cb)) (n * (sc + sb)) (ll n c f s0) := by
  intro mm a b h1 h2 q
  refine hi mm a b ?_
  clear hi
  induction n generalizing s0 mm a b with
  | zero => exact q.elim
  | succ n ih =>
    have e1 := q_lc n (cc + cb)
    have e2 := q_lc n (sc + sb)
    have q' : lwp (lb (c s0) fun v => if v then lb (f s0) fun s' => ll n c f s' else lp s0) (fun s m' => GL sv k (upd s) [] m' jX (a + (n + 1) * (cc + cb)) (b + (n + 1) * (sc + sb))) T mm := q
    refine hc s0 [] mm a b (Nat.le_refl 0) (by omega) (by omega) (lwp_mono (lwp_lb q') (fun v m1 q1 => ?_) (fun _ _ q => q))
    cases v with
    | true =>
      refine hb s0 m1 (a + cc) (b + sc) (by omega) (by omega) (lwp_mono (lwp_lb q1) (fun s' m2 q2 => ?_) (fun _ _ q => q))
      exact ih m2 _ _ (by omega) (by omega) (lwp_mono q2 (fun z m' g => KGG_cs g (by omega) (by omega)) (fun _ _ q => q))
    | false => exact GL_widen (a' := a + (n + 1) * (cc + cb)) (b' := b + (n + 1) * (sc + sb)) (by omega) (by omega) q1
end K7
section K7b
variable {sv : Nat} {k : QC} {T : Nat → LSt → Prop} {α β γ ρ σ : Type} {env env' : List (Nat × Value)} {cc : ByteArray} {own : String} {d i : Nat}
def KSTR (sv : Nat) (k : QC) (T : Nat → LSt → Prop) (RET : ρ → LSt → Prop) (upd : σ → List (Nat × Value)) (env : List (Nat × Value)) (i j kc ks' : Nat) (x : LX (ρ ⊕ σ)) : Prop :=
  ∀ (mm : LSt) (a b : Nat), a + kc ≤ (kR k).cells → b + ks' ≤ (kR k).slots → lwp x (fun r m' => (∀ v, r = .inl v → RET v m') ∧ ∀ s, r = .inr s → GL sv k (upd s) [] m' j (a + kc) (b + ks')) T mm → GL sv k env [] mm i a b
theorem KSTR_of {RET : ρ → LSt → Prop} {upd : σ → List (Nat × Value)} {x : LX σ} {j c s : Nat} (h : KST sv k T upd env i j c s x) : KSTR sv k T RET upd env i j c s (lb x fun s => lp (Sum.inr s)) := by
  intro mm a b hc hs q
  exact h mm a b hc hs (lwp_mono (lwp_lb q) (fun v m' g => (show _ ∧ _ from g).2 v rfl) (fun _ _ q => q))
theorem KSTR_if {RET : ρ → LSt → Prop} {upd : σ → List (Nat × Value)} {x : LX Bool} {y : LX ρ} {z : LX (ρ ⊕ σ)} {jT jF j c s c1 s1 c2 s2 : Nat} (hc0 : KCE sv k T env 0 i jT jF c s x) (h1 : KSB sv k T RET env jT c1 s1 y) (h2 : KSTR sv k T RET upd env jF j c2 s2 z) : KSTR sv k T RET upd env i j (c + max c1 c2) (s + max s1 s2) (lb x fun v => if v then (lb y fun w => lp (Sum.inl w)) else z) := by
  intro mm a b hc hs h
  refine hc0 [] mm a b (Nat.le_refl 0) (by omega) (by omega) (lwp_mono (lwp_lb h) (fun v m1 q1 => ?_) (fun _ _ q => q))
  cases v with
  | true => exact h1 m1 _ _ (by omega) (by omega) (lwp_mono (lwp_lb q1) (fun w m' g => (show _ ∧ _ from g).1 w rfl) (fun _ _ q => q))
  | false => exact h2 m1 _ _ (by omega) (by omega) (lwp_mono q1 (fun r m' g => ⟨g.1, fun s hs' => GL_widen (by omega) (by omega) (g.2 s hs')⟩) (fun _ _ q => q))
theorem KSTR_let {pA : α → List Value} {RET : ρ → LSt → Prop} {upd : σ → List (Nat × Value)} {x : LX α} {f : α → LX (ρ ⊕ σ)} {ev : α → List (Nat × Value)} {j j' je c s c' s' : Nat} (he : KXE sv k T pA env 0 i j c s x) (hst : ∀ (v : α) (mm : LSt) (a b : Nat), GL sv k (ev v) [] mm j' a b → GL sv k env (pA v ++ []) mm j a b) (hk : ∀ v, KSTR sv k T RET upd (ev v) j' je c' s' (f v)) : KSTR sv k T RET upd env i je (c + c') (s + s') (lb x f) := by
  intro mm a b hc hs h
  exact he [] mm a b (Nat.le_refl 0) (by omega) (by omega) (lwp_mono (lwp_lb h) (fun v m1 q1 => hst v m1 _ _ (hk v m1 _ _ (by omega) (by omega) (lwp_mono q1 (fun r m' g => ⟨g.1, fun s hs' => KGG_cs (g.2 s hs') (by omega) (by omega)⟩) (fun _ _ q => q)))) (fun _ _ q => q))
theorem KSTR_post {RET : ρ → LSt → Prop} {upd : σ → List (Nat × Value)} {x : LX (ρ ⊕ σ)} {j je c s : Nat} (h : KSTR sv k T RET upd env i j c s x) (h0 : ∀ (v : σ) (mm : LSt) (a b : Nat), GL sv k (upd v) [] mm je a b → GL sv k (upd v) [] mm j a b) : KSTR sv k T RET upd env i je c s x := fun mm a b hc hs q => h mm a b hc hs (lwp_mono q (fun r m' g => ⟨g.1, fun s hs' => h0 s m' _ _ (g.2 s hs')⟩) (fun _ _ q => q))
theorem KSTR_loop {RET : ρ → LSt → Prop} {upd : σ → List (Nat × Value)} {c : σ → LX Bool} {f : σ → LX (ρ ⊕ σ)} {s0 : σ} {n h jB jX cc sc cb sb : Nat} (hi : ∀ (mm : LSt) (a b : Nat), GL sv k (upd s0) [] mm h a b → GL sv k env [] mm i a b) (hc : ∀ s, KCE sv k T (upd s) 0 h jB jX cc sc (c s)) (hb : ∀ s, KSTR sv k T RET upd (upd s) jB h cb sb (f s)) : KSTR sv k T RET upd env i jX (n * (cc + cb)) (n * (sc + sb)) (llr n c f s0) := by
  intro mm a b h1 h2 q
  refine hi mm a b ?_
  clear hi
  induction n generalizing s0 mm a b with
  | zero => exact q.elim
  | succ n ih =>
    have e1 := q_lc n (cc + cb)
    have e2 := q_lc n (sc + sb)
    have q' : lwp (lb (c s0) fun v => if v then lb (f s0) fun r => (match r with
      | .inl v => lp (.inl v)
      | .inr s' => llr n c f s') else lp (.inr s0)) (fun r m' => (∀ v, r = .inl v → RET v m') ∧ ∀ s, r = .inr s → GL sv k (upd s) [] m' jX (a + (n + 1) * (cc + cb)) (b + (n + 1) * (sc + sb))) T mm := q
    refine hc s0 [] mm a b (Nat.le_refl 0) (by omega) (by omega) (lwp_mono (lwp_lb q') (fun v m1 q1 => ?_) (fun _ _ q => q))
    cases v with
    | true =>
      refine hb s0 m1 (a + cc) (b + sc) (by omega) (by omega) (lwp_mono (lwp_lb q1) (fun r m2 q2 => ⟨fun v hv => ?_, fun s' hs' => ?_⟩) (fun _ _ q => q))
      · subst hv; exact (show _ ∧ _ from q2).1 v rfl
      · subst hs'
        exact ih m2 _ _ (by omega) (by omega) (lwp_mono q2 (fun r m' g => ⟨g.1, fun s hs' => KGG_cs (g.2 s hs') (by omega) (by omega)⟩) (fun _ _ q => q))
    | false => exact GL_widen (a' := a + (n + 1) * (cc + cb)) (b' := b + (n + 1) * (sc + sb)) (by omega) (by omega) ((show _ ∧ _ from q1).2 s0 rfl)
theorem KSB_seqR {RET : ρ → LSt → Prop} {upd : σ → List (Nat × Value)} {x : LX (ρ ⊕ σ)} {f : σ → LX ρ} {j c s c' s' : Nat} (he : KSTR sv k T RET upd env i j c s x) (hk : ∀ v, KSB sv k T RET (upd v) j c' s' (f v)) : KSB sv k T RET env i (c + c') (s + s') (lb x fun r => lsum r f) := by
  intro mm a b hc hs h
  exact he mm a b (by omega) (by omega) (lwp_mono (lwp_lb h) (fun r m1 q1 => ⟨fun v hv => by subst hv; exact q1, fun s' hs' => by subst hs'; exact hk s' m1 _ _ (by omega) (by omega) q1⟩) (fun _ _ q => q))
end K7b
section K8
variable {sv : Nat} {k : QC} {T : Nat → LSt → Prop} {α β γ ρ σ : Type} {env env' : List (Nat × Value)} {cc : ByteArray} {own : String} {d i j : Nat}
abbrev TF : Nat → QM → Prop := fun _ _ => False
/-! pieces that don't touch the state -/
theorem kX {pA : α → List Value} {v : α} (h : XE k TF pA env d i j 0 0 (xp v)) : KXE sv k T pA env d i j 0 0 (lp v) := fun st L a b hd hc hs q mm hL => h st mm a b hd hc hs (q mm hL)
theorem k1 {pA : α → List Value} {pB : β → List Value} {f : α → β} (h : OP1 k TF pA pB env d i j 0 0 (fun x => xp (f x))) : KOP1 sv k T pA pB env d i j 0 0 (fun x => lp (f x)) := fun v st L a b hd hc hs q mm hL => h v st mm a b hd hc hs (q mm hL)
theorem k2 {pA : α → List Value} {pB : β → List Value} {pC : γ → List Value} {f : α → β → γ} (h : OP2 k TF pA pB pC env d i j 0 0 (fun x y => xp (f x y))) : KOP2 sv k T pA pB pC env d i j 0 0 (fun x y => lp (f x y)) := fun v w st L a b hd hc hs q mm hL => h v w st mm a b hd hc hs (q mm hL)
theorem kdiv (X : CX k cc own) (hdg : decode cc i = .ok (.idiv, 1)) : KOP2 sv k T pI pI pI env d i (i + 1) 0 0 ldiv := fun x y st L a b hd hc hs q mm hL => by
  refine O_idiv (T := TF) (d := d) X hdg x y st mm a b hd hc hs ?_
  unfold lwp ldiv at q
  unfold qwp xdiv
  by_cases h0 : y = 0
  · rw [if_pos h0] at q; exact q.elim
  · rw [if_neg h0] at q ⊢; exact q mm hL
theorem krem (X : CX k cc own) (hdg : decode cc i = .ok (.irem, 1)) : KOP2 sv k T pI pI pI env d i (i + 1) 0 0 lrem := fun x y st L a b hd hc hs q mm hL => by
  refine O_irem (T := TF) (d := d) X hdg x y st mm a b hd hc hs ?_
  unfold lwp lrem at q
  unfold qwp xrem
  by_cases h0 : y = 0
  · rw [if_pos h0] at q; exact q.elim
  · rw [if_neg h0] at q ⊢; exact q mm hL
/-- a branch on one value, on two -/
theorem kF1 {pA : α → List Value} {f : α → Bool} {jT jF : Nat} (h : ∀ (v : α) (st : List Value) (mm : QM) (a b : Nat), GG k env st mm (if f v = true then jT else jF) a b → GG k env (pA v ++ st) mm i a b) : ∀ (v : α) (st : List Value) (L : LSt) (a b : Nat), GL sv k env st L (if f v = true then jT else jF) a b → GL sv k env (pA v ++ st) L i a b := fun v st _ a b q mm hL => h v st mm a b (q mm hL)
theorem kF2 {pA : α → List Value} {pB : β → List Value} {f : α → β → Bool} {jT jF : Nat} (h : ∀ (v : α) (w : β) (st : List Value) (mm : QM) (a b : Nat), GG k env st mm (if f v w = true then jT else jF) a b → GG k env (pB w ++ (pA v ++ st)) mm i a b) : ∀ (v : α) (w : β) (st : List Value) (L : LSt) (a b : Nat), GL sv k env st L (if f v w = true then jT else jF) a b → GL sv k env (pB w ++ (pA v ++ st)) L i a b := fun v w st _ a b q mm hL => h v w st mm a b (q mm hL)
/-- a store -/
theorem kS {pA : α → List Value} {ev : α → List (Nat × Value)} {s0 : List Value} (h : ∀ (v : α) (mm : QM) (a b : Nat), GG k (ev v) [] mm j a b → GG k env (pA v ++ s0) mm i a b) : ∀ (v : α) (L : LSt) (a b : Nat), GL sv k (ev v) [] L j a b → GL sv k env (pA v ++ s0) L i a b := fun v _ a b q mm hL => h v mm a b (q mm hL)
theorem kP {s0 : List Value} (h : ∀ (mm : QM) (a b : Nat), GG k env' s0 mm j a b → GG k env s0 mm i a b) : ∀ (L : LSt) (a b : Nat), GL sv k env' s0 L j a b → GL sv k env s0 L i a b := fun _ a b q mm hL => h mm a b (q mm hL)
theorem kG {s1 : List Value} (h : ∀ (st : List Value) (mm : QM) (a b : Nat), GG k env (s1 ++ st) mm j a b → GG k env st mm i a b) : ∀ (st : List Value) (L : LSt) (a b : Nat), GL sv k env (s1 ++ st) L j a b → GL sv k env st L i a b := fun st _ a b q mm hL => h st mm a b (q mm hL)
theorem kB {v : Value} (h : ∀ (st : List Value) (mm : QM) (a b : Nat), GG k env (v :: st) mm j a b → GG k env st mm i a b) : ∀ (st : List Value) (L : LSt) (a b : Nat), GL sv k env (v :: st) L j a b → GL sv k env st L i a b := fun st _ a b q mm hL => h st mm a b (q mm hL)
theorem kJ (h : ∀ (st : List Value) (mm : QM) (a b : Nat), GG k env st mm j a b → GG k env st mm i a b) : ∀ (st : List Value) (L : LSt) (a b : Nat), GL sv k env st L j a b → GL sv k env st L i a b := fun st _ a b q mm hL => h st mm a b (q mm hL)
theorem S_b0g {off : Int} {tgt : Nat} (X : CX k cc own) (d1 : decode cc i = .ok (.iconst 0, 1)) (d2 : decode cc (i + 1) = .ok (.goto off, 3)) (ht : ((i + 1 : Nat) : Int) + off = (tgt : Int)) : ∀ (st : List Value) (mm : QM) (a b : Nat), GG k env (.int 0 :: st) mm tgt a b → GG k env st mm i a b := fun _ _ _ _ h => g_iconst X d1 (by decide) (g_goto X d2 ht h)
theorem KCE_true {jF : Nat} : KCE sv k T env d i i jF 0 0 (lp true) := fun st L a b _ _ _ q => q
theorem KCE_post {x : LX Bool} {jT jT' jF c s : Nat} (h : KCE sv k T env d i jT jF c s x) (g : ∀ (st : List Value) (L : LSt) (a b : Nat), GL sv k env st L jT' a b → GL sv k env st L jT a b) : KCE sv k T env d i jT' jF c s x := fun st L a b hd hc hs q => h st L a b hd hc hs (lwp_mono q (fun v L' h1 => by
  cases v with
  | true => exact g _ _ _ _ h1
  | false => exact h1) (fun _ _ q => q))
/-- an object that is known -/
def lgo {α : Type} (r : Option Nat) (s : Nat) (x : LX α) : LX α := fun L => if r = some s then x L else none
theorem lgo_of {α : Type} {r : Option Nat} {s : Nat} {x : LX α} {K : α → LSt → Prop} {T : Nat → LSt → Prop} {L : LSt} (h : lwp (lgo r s x) K T L) : r = some s ∧ lwp x K T L := by
  unfold lwp lgo at h
  by_cases q : r = some s
  · rw [if_pos q] at h; exact ⟨q, h⟩
  · rw [if_neg q] at h; exact h.elim
theorem KSB_go {ρ : Type} {RET : ρ → LSt → Prop} {x : LX ρ} {c s : Nat} {L : LSt} (h : KSB sv k T RET env i c s x) (h0 : lwp x RET T L) (hc : c ≤ (kR k).cells) (hs : s ≤ (kR k).slots) : GL sv k env [] L i 0 0 := h L 0 0 (by omega) (by omega) h0
theorem kD2 (h : ∀ (r : Option Nat) (n : Int32) (st : List Value) (mm : QM) (a b : Nat), GG k env (.int n :: va_rf r :: .int n :: va_rf r :: st) mm j a b → GG k env (.int n :: va_rf r :: st) mm i a b) : ∀ (r : Option Nat) (n : Int32) (st : List Value) (L : LSt) (a b : Nat), GL sv k env (.int n :: va_rf r :: .int n :: va_rf r :: st) L j a b → GL sv k env (.int n :: va_rf r :: st) L i a b := fun r n st _ a b q mm hL => h r n st mm a b (q mm hL)
/-! the law's rows -/
theorem LR.nN {L : LSt} {m : QM} (h : LR sv L m) : qty m (sv + 20) = (2, 0, 8) ∧ qai m (sv + 20) = zN L := h.2.2.1
theorem LR.nK {L : LSt} {m : QM} (h : LR sv L m) : qty m (sv + 21) = (2, 0, 5) ∧ qai m (sv + 21) = zK L := h.2.2.2.1
theorem LR.nG {L : LSt} {m : QM} (h : LR sv L m) : qty m (sv + 22) = (2, 0, 2) ∧ qai m (sv + 22) = zG L := h.2.2.2.2
theorem vin_of {z : Int32} {n : Nat} (h : 0 ≤ z.toInt ∧ z.toInt < (n : Int)) : vp_in z n := by
  intro q
  rcases q with q | q
  · rw [Int32.lt_iff_toInt_lt] at q; have : (0 : Int32).toInt = 0 := rfl; omega
  · have : z.toNatClampNeg = z.toInt.toNat := rfl
    omega
theorem kai (X : CX k cc own) (hdg : decode cc i = .ok (.iaload, 1)) : KOP2 sv k T pR pI pI env d i (i + 1) 0 0 (lai sv) := fun r z st L a b _ _ _ q mm hL => by
  unfold lwp lai at q
  by_cases h1 : r = some (sv + 20)
  · rw [if_pos h1] at q
    by_cases h : 0 ≤ z.toInt ∧ z.toInt < (8 : Nat)
    · rw [if_pos h] at q
      subst h1
      refine g_iald X hL.nN.1 (vin_of h) hdg ?_
      rw [hL.nN.2]; exact q mm hL
    · rw [if_neg h] at q; exact q.elim
  · rw [if_neg h1] at q
    by_cases h2 : r = some (sv + 21)
    · rw [if_pos h2] at q
      by_cases h : 0 ≤ z.toInt ∧ z.toInt < (5 : Nat)
      · rw [if_pos h] at q
        subst h2
        refine g_iald X hL.nK.1 (vin_of h) hdg ?_
        rw [hL.nK.2]; exact q mm hL
      · rw [if_neg h] at q; exact q.elim
    · rw [if_neg h2] at q
      by_cases h3 : r = some (sv + 22)
      · rw [if_pos h3] at q
        by_cases h : 0 ≤ z.toInt ∧ z.toInt < (2 : Nat)
        · rw [if_pos h] at q
          subst h3
          refine g_iald X hL.nG.1 (vin_of h) hdg ?_
          rw [hL.nG.2]; exact q mm hL
        · rw [if_neg h] at q; exact q.elim
      · rw [if_neg h3] at q; exact q.elim
theorem CR.sair {G : GM} {S : MS} {m : QM} {a j : Nat} {x : Int32} (h : CR sv G S m) (h0 : sv + 20 ≤ a) (h1 : a < sv + 23) : CR sv G S (sai m a j x) := h.fw rfl (fun _ => rfl) (fun _ _ _ => rfl) (fun _ _ => rfl) (fun _ _ => rfl) (fun b q => va_up_diff _ _ (by omega)) (fun _ => rfl)
theorem sai_same {m : QM} {a j : Nat} {x : Int32} : qai (sai m a j x) a = va_up (qai m a) j x := va_up_same _ _ _
theorem sai_diff {m : QM} {a b j : Nat} {x : Int32} (h : b ≠ a) : qai (sai m a j x) b = qai m b := va_up_diff _ _ h
theorem ksai (X : CX k cc own) (hdg : decode cc i = .ok (.iastore, 1)) : KOP3 sv k T pR pI pI pU env d i (i + 1) 0 0 (lsai sv) := fun r z x st L a b _ _ _ q mm hL => by
  obtain ⟨⟨G, hC⟩, hs, hN, hK, hG⟩ := hL
  unfold lwp lsai at q
  by_cases h1 : r = some (sv + 20)
  · rw [if_pos h1] at q
    by_cases h : 0 ≤ z.toInt ∧ z.toInt < (8 : Nat)
    · rw [if_pos h] at q
      subst h1
      refine g_iast X hN.1 (vin_of h) hdg (q _ ⟨⟨G, hC.sair (by omega) (by omega)⟩, hs, ⟨hN.1, ?_⟩, ⟨hK.1, ?_⟩, ⟨hG.1, ?_⟩⟩)
      · rw [sai_same, hN.2]; rfl
      · rw [sai_diff (by omega), hK.2]; rfl
      · rw [sai_diff (by omega), hG.2]; rfl
    · rw [if_neg h] at q; exact q.elim
  · rw [if_neg h1] at q
    by_cases h2 : r = some (sv + 21)
    · rw [if_pos h2] at q
      by_cases h : 0 ≤ z.toInt ∧ z.toInt < (5 : Nat)
      · rw [if_pos h] at q
        subst h2
        refine g_iast X hK.1 (vin_of h) hdg (q _ ⟨⟨G, hC.sair (by omega) (by omega)⟩, hs, ⟨hN.1, ?_⟩, ⟨hK.1, ?_⟩, ⟨hG.1, ?_⟩⟩)
        · rw [sai_diff (by omega), hN.2]; rfl
        · rw [sai_same, hK.2]; rfl
        · rw [sai_diff (by omega), hG.2]; rfl
      · rw [if_neg h] at q; exact q.elim
    · rw [if_neg h2] at q
      by_cases h3 : r = some (sv + 22)
      · rw [if_pos h3] at q
        by_cases h : 0 ≤ z.toInt ∧ z.toInt < (2 : Nat)
        · rw [if_pos h] at q
          subst h3
          refine g_iast X hG.1 (vin_of h) hdg (q _ ⟨⟨G, hC.sair (by omega) (by omega)⟩, hs, ⟨hN.1, ?_⟩, ⟨hK.1, ?_⟩, ⟨hG.1, ?_⟩⟩)
          · rw [sai_diff (by omega), hN.2]; rfl
          · rw [sai_diff (by omega), hK.2]; rfl
          · rw [sai_same, hG.2]; rfl
        · rw [if_neg h] at q; exact q.elim
      · rw [if_neg h3] at q; exact q.elim
/-! contracts of the law's own methods -/
def PL (sv : Nat) (x : LX Int32) (mm : QM) (R : RX) : Prop := ∃ L, LR sv L mm ∧ lwp x (fun v L' => ∀ m', LR sv L' m' → R (.ok (some (.int v))) m') (fun _ _ => False) L
def LM (y : MethodName) (cc : ByteArray) (maxL : Nat) (ret : Option FieldType) (fr lo mc ms : Nat) (av : List Value) (sv : Nat) (x : LX Int32) : Prop := ME y cc maxL ret fr lo mc ms (fun _ => av) (fun _ mm R => PL sv x mm R)
def LMH (y : MethodName) (cc : ByteArray) (maxL : Nat) (ret : Option FieldType) (hh : List (Nat × Nat × Nat × Nat)) (fr lo mc ms : Nat) (av : List Value) (sv : Nat) (x : LX Int32) : Prop := MEH y cc maxL ret hh fr lo mc ms (fun _ => av) (fun _ mm R => PL sv x mm R)
theorem MEH.imp {y : MethodName} {cc : ByteArray} {maxL : Nat} {ret : Option FieldType} {hh : List (Nat × Nat × Nat × Nat)} {fr lo mc ms : Nat} {av : (Nat → ClassId) → List Value} {P P' : (Nat → ClassId) → QM → RX → Prop} (h : MEH y cc maxL ret hh fr lo mc ms av P) (hp : ∀ DA mm R, P' DA mm R → P DA mm R) : MEH y cc maxL ret hh fr lo mc ms av P' := fun l D DA Hs mm R htr q => h l D DA Hs mm R htr (hp DA mm R q)
theorem TH_F {k : QC} : TH k (fun _ _ => False) := fun _ _ _ _ _ _ _ _ _ _ _ h => h.elim
/-- the goal of a method's end -/
abbrev KR (sv : Nat) (R : RX) : Int32 → LSt → Prop := fun v L => ∀ m, LR sv L m → R (.ok (some (.int v))) m
abbrev TL : Nat → LSt → Prop := fun _ _ => False
theorem k_callS {x : LX Int32} {y : MethodName} {c2 : ByteArray} {maxL fr lo mc ms n i : Nat} {ret : Option FieldType} {av : List Value} {st : List Value} {L : LSt} {pc a b : Nat} (X : CX k cc own) (htr : (kl k).stackTraces = false) (M : LM y c2 maxL ret fr lo mc ms av sv x) (Lk : LK y c2 maxL ret n) (hs : Cond.static y ∈ qW) (hl : Cond.methodLink own i y ∈ qW) (hn : av.length = n) (hroom : fr + 1 ≤ (kR k).frames ∧ 8 + (maxL + 11) + lo ≤ (kR k).locals) (hst : scat st ≤ 8) (hf : a + mc ≤ (kR k).cells ∧ b + ms ≤ (kR k).slots) (hdg : decode cc pc = .ok (.invokestatic i, 3))
    (h : lwp x (fun v L' => GL sv k env (.int v :: st) L' (pc + 3) (a + mc) (b + ms)) TL L) : GL sv k env (av.reverse ++ st) L pc a b := fun mm hL =>
  e_callS (fun r m' => ∃ v L', r = .ok (some (.int v)) ∧ LR sv L' m' ∧ GL sv k env (.int v :: st) L' (pc + 3) (a + mc) (b + ms)) X TH_F htr M Lk hs hl hn hroom hst hf hdg rfl
    ⟨L, hL, lwp_mono h (fun v L' g m' hL' => ⟨v, L', rfl, hL', g⟩) (fun _ _ q => q)⟩ (fun e m' q => by obtain ⟨v, L', q, -⟩ := q; cases q) (fun v m' q => by obtain ⟨w, L', q, h1, h2⟩ := q; cases q; exact h2 m' h1)
theorem k_callH {x : LX Int32} {y : MethodName} {c2 : ByteArray} {maxL fr lo mc ms n i : Nat} {ret : Option FieldType} {hh : List (Nat × Nat × Nat × Nat)} {av : List Value} {st : List Value} {L : LSt} {pc a b : Nat} (X : CX k cc own) (htr : (kl k).stackTraces = false) (M : LMH y c2 maxL ret hh fr lo mc ms av sv x) (Lk : LKH y c2 maxL ret hh n) (hs : Cond.static y ∈ qW) (hl : Cond.methodLink own i y ∈ qW) (hn : av.length = n) (hroom : fr + 1 ≤ (kR k).frames ∧ 8 + (maxL + 11) + lo ≤ (kR k).locals) (hst : scat st ≤ 8) (hf : a + mc ≤ (kR k).cells ∧ b + ms ≤ (kR k).slots) (hdg : decode cc pc = .ok (.invokestatic i, 3))
    (h : lwp x (fun v L' => GL sv k env (.int v :: st) L' (pc + 3) (a + mc) (b + ms)) TL L) : GL sv k env (av.reverse ++ st) L pc a b := fun mm hL =>
  h_callS (fun r m' => ∃ v L', r = .ok (some (.int v)) ∧ LR sv L' m' ∧ GL sv k env (.int v :: st) L' (pc + 3) (a + mc) (b + ms)) X TH_F htr M Lk hs hl hn hroom hst hf hdg rfl
    ⟨L, hL, lwp_mono h (fun v L' g m' hL' => ⟨v, L', rfl, hL', g⟩) (fun _ _ q => q)⟩ (fun e m' q => by obtain ⟨v, L', q, -⟩ := q; cases q) (fun v m' q => by obtain ⟨w, L', q, h1, h2⟩ := q; cases q; exact h2 m' h1)
/-- a question that never throws, asked of the server by the law itself -/
def lq (f : MS → Int32) : LX Int32 := fun L => some (.ok (f (zS L)), L)
theorem KP.lr {L L' : LSt} {m m' : QM} (h : LR sv L m) (k : KP sv m m') (hC : ∃ G, CR sv G (zS L') m') (hs : SI (zT L') (zS L')) (e : L'.2.1 = L.2.1 ∧ L'.2.2.1 = L.2.2.1 ∧ L'.2.2.2.1 = L.2.2.2.1) : LR sv L' m' := by
  obtain ⟨-, -, hN, hK, hG⟩ := h
  have a := k.2 (sv + 20) (by omega) (by omega); have b := k.2 (sv + 21) (by omega) (by omega); have c := k.2 (sv + 22) (by omega) (by omega)
  exact ⟨hC, hs, ⟨a.1.trans hN.1, a.2.2.2.1.trans (hN.2.trans e.1.symm)⟩, ⟨b.1.trans hK.1, b.2.2.2.1.trans (hK.2.trans e.2.1.symm)⟩, ⟨c.1.trans hG.1, c.2.2.2.1.trans (hG.2.trans e.2.2.symm)⟩⟩
theorem LR.grow {L : LSt} {m m' : QM} (h : LR sv L m) (g : GROW m m') : LR sv L m' := by
  obtain ⟨⟨G, hC⟩, hs, hN, hK, hG⟩ := h
  have := hC.cf.top
  exact ⟨⟨G, hC.grow g⟩, hs, ⟨(g.ty _ (by omega)).trans hN.1, (g.ai _ (by omega)).trans hN.2⟩, ⟨(g.ty _ (by omega)).trans hK.1, (g.ai _ (by omega)).trans hK.2⟩, ⟨(g.ty _ (by omega)).trans hG.1, (g.ai _ (by omega)).trans hG.2⟩⟩
theorem k_callQ {F : QX Int32} {f : MS → Int32} {y : MethodName} {c2 : ByteArray} {maxL fr lo mc ms i : Nat} {st : List Value} {L : LSt} {pc a b : Nat} (X : CX k cc own) (htr : (kl k).stackTraces = false) (M : MM y c2 maxL (some .int) fr lo mc ms encI [.ref sv] F) (hq : ∀ G S m, CR sv G S m → OUT sv F m (.ok (f S)) S) (Lk : LK y c2 maxL (some .int) 0) (hin : Cond.instanceMethod y ∈ qW) (hse : Cond.selects RX6 y y ∈ qW) (hl : Cond.methodLink own i y ∈ qW) (hroom : fr + 1 ≤ (kR k).frames ∧ 8 + (maxL + 11) + lo ≤ (kR k).locals) (hst : scat st ≤ 8) (hf : a + mc ≤ (kR k).cells ∧ b + ms ≤ (kR k).slots) (hdg : decode cc pc = .ok (.invokevirtual i, 3))
    (h : lwp (lq f) (fun v L' => GL sv k env (.int v :: st) L' (pc + 3) (a + mc) (b + ms)) TL L) : GL sv k env (.ref sv :: st) L pc a b := fun mm hL => by
  obtain ⟨G, hC⟩ := hL.1
  obtain ⟨G', m', e, hC', hk⟩ := hq G (zS L) mm hC
  refine g_callV (av := []) (cI := 7) (q := sv) X (T := TF) TH_F htr rfl hC.cf.ty M Lk hin hse hl rfl hroom hst hf hdg ?_
  unfold qwp
  rw [e]
  exact h m' (hk.lr hL ⟨G', hC'⟩ hL.2.1 ⟨rfl, rfl, rfl⟩)
theorem kretI {R : RX} {x : LX Int32} {i0 c s : Nat} (X : CX k cc own) (C : CQE k R) (hr : (kmeth k).sig.returnType = some .int) (hdg : decode cc i = .ok (.ireturn, 1)) (he : KXE sv k TL pI env 0 i0 i c s x) : KSB sv k TL (KR sv R) env i0 c s x := KSB_ret he fun v L a b ha hb h mm hL => e_iret X C hr rfl hdg ha hb (h mm hL)
theorem kretZ {R : RX} {x : LX Int32} {i0 c s : Nat} (X : CX k cc own) (C : CQE k R) (hr : (kmeth k).sig.returnType = some .boolean) (hdg : decode cc i = .ok (.ireturn, 1)) (he : KXE sv k TL pI env 0 i0 i c s x) : KSB sv k TL (KR sv R) env i0 c s (lb x lz) := by
  intro L a b hc hs h
  refine he [] L a b (Nat.le_refl 0) hc hs (lwp_mono (lwp_lb h) (fun v L1 q1 => ?_) (fun _ _ q => q))
  unfold lwp lz at q1
  by_cases hv : v = 0 ∨ v = 1
  · rw [if_pos hv] at q1
    exact fun mm hL => e_iret X C hr (narrow_z hv) hdg hc hs (q1 mm hL)
  · rw [if_neg hv] at q1; exact q1.elim
/-- a method of the law out of its body -/
theorem LM_of {y : MethodName} {cc : ByteArray} {maxL : Nat} {ret : Option FieldType} {fr lo mc ms : Nat} {av : List Value} {env0 : List (Nat × Value)} {x : LX Int32} (hy : plainName y.cls = true) (hlen : (lg_sl av).length ≤ maxL) (hargs : lv_args 0 av = env0)
    (body : ∀ (k : QC) (R : RX), CX k cc y.cls → CQE k R → kR k = { frames := fr, cells := mc, slots := ms, locals := lo } → knL k = maxL → (kmeth k).sig.returnType = ret → ∀ L, lwp x (KR sv R) TL L → GL sv k env0 [] L 0 0 0) : LM y cc maxL ret fr lo mc ms av sv x :=
  ME_of (env0 := fun _ => env0) hy (fun _ => hlen) (fun _ => hargs) (fun k mm R X C hR hN hr hname hP => by
    obtain ⟨L, hL, h⟩ := hP
    exact body k R X C hR hN hr L h mm hL)
end K8
