def GROW (m m' : QM) : Prop :=
  (qtop m ≤ qtop m') ∧ (∀ b, b < qtop m → qty m' b = qty m b) ∧ (∀ f b, b < qtop m → qfi m' f b = qfi m f b) ∧ (∀ f b, b < qtop m → qfl m' f b = qfl m f b) ∧ (∀ f b, b < qtop m → qfr m' f b = qfr m f b) ∧ (∀ b, b < qtop m → qai m' b = qai m b) ∧ (∀ b, b < qtop m → qal m' b = qal m b) ∧ (∀ b, b < qtop m → qar m' b = qar m b)
theorem GROW.top {m m' : QM} (h : GROW m m') : qtop m ≤ qtop m' := h.1
theorem GROW.ty {m m' : QM} (h : GROW m m') : ∀ b, b < qtop m → qty m' b = qty m b := h.2.1
theorem GROW.fi {m m' : QM} (h : GROW m m') : ∀ f b, b < qtop m → qfi m' f b = qfi m f b := h.2.2.1
theorem GROW.fl {m m' : QM} (h : GROW m m') : ∀ f b, b < qtop m → qfl m' f b = qfl m f b := h.2.2.2.1
theorem GROW.fr {m m' : QM} (h : GROW m m') : ∀ f b, b < qtop m → qfr m' f b = qfr m f b := h.2.2.2.2.1
theorem GROW.ai {m m' : QM} (h : GROW m m') : ∀ b, b < qtop m → qai m' b = qai m b := h.2.2.2.2.2.1
theorem GROW.al {m m' : QM} (h : GROW m m') : ∀ b, b < qtop m → qal m' b = qal m b := h.2.2.2.2.2.2.1
theorem GROW.ar {m m' : QM} (h : GROW m m') : ∀ b, b < qtop m → qar m' b = qar m b := h.2.2.2.2.2.2.2
theorem GROW.refl (m : QM) : GROW m m := ⟨Nat.le_refl _, fun _ _ => rfl, fun _ _ _ => rfl, fun _ _ _ => rfl, fun _ _ _ => rfl, fun _ _ => rfl, fun _ _ => rfl, fun _ _ => rfl⟩
theorem GROW.trans {m m' m2 : QM} (h : GROW m m') (g : GROW m' m2) : GROW m m2 :=
  have l := fun b (y : b < qtop m) => Nat.lt_of_lt_of_le y h.top
  ⟨Nat.le_trans h.top g.top, fun b y => (g.ty b (l b y)).trans (h.ty b y), fun f b y => (g.fi f b (l b y)).trans (h.fi f b y), fun f b y => (g.fl f b (l b y)).trans (h.fl f b y), fun f b y => (g.fr f b (l b y)).trans (h.fr f b y), fun b y => (g.ai b (l b y)).trans (h.ai b y), fun b y => (g.al b (l b y)).trans (h.al b y), fun b y => (g.ar b (l b y)).trans (h.ar b y)⟩
theorem up_up {α : Type} {f : Nat → Nat → α} {g a g' a' : Nat} {x : α} (h : ¬ (g' = g ∧ a' = a)) : va_up f g (va_up (f g) a x) g' a' = f g' a' := by
  by_cases e : g' = g
  · subst e
    rw [va_up_same, va_up_diff _ _ (fun q => h ⟨rfl, q⟩)]
  · rw [va_up_diff _ _ e]
theorem up_us {α : Type} {f : Nat → Nat → α} {g a : Nat} {x : α} : va_up f g (va_up (f g) a x) g a = x := by rw [va_up_same, va_up_same]
theorem fi_s {m : QM} {f a : Nat} {x : Int32} : qfi (sfi m f a x) f a = x := up_us
theorem fi_n {m : QM} {f a g b : Nat} {x : Int32} (h : ¬ g = f) : qfi (sfi m f a x) g b = qfi m g b := up_up (fun q => h q.1)
theorem fi_a {m : QM} {f a g b : Nat} {x : Int32} (h : ¬ b = a) : qfi (sfi m f a x) g b = qfi m g b := up_up (fun q => h q.2)
theorem fl_s {m : QM} {f a : Nat} {x : Int64} : qfl (sfl m f a x) f a = x := up_us
theorem fl_n {m : QM} {f a g b : Nat} {x : Int64} (h : ¬ g = f) : qfl (sfl m f a x) g b = qfl m g b := up_up (fun q => h q.1)
theorem fl_a {m : QM} {f a g b : Nat} {x : Int64} (h : ¬ b = a) : qfl (sfl m f a x) g b = qfl m g b := up_up (fun q => h q.2)
theorem fr_s {m : QM} {f a : Nat} {x : Option Nat} : qfr (sfr m f a x) f a = x := up_us
theorem fr_n {m : QM} {f a g b : Nat} {x : Option Nat} (h : ¬ g = f) : qfr (sfr m f a x) g b = qfr m g b := up_up (fun q => h q.1)
theorem fr_a {m : QM} {f a g b : Nat} {x : Option Nat} (h : ¬ b = a) : qfr (sfr m f a x) g b = qfr m g b := up_up (fun q => h q.2)
section C14
variable {m M : QM}
theorem GROW.sfi {f a : Nat} {x : Int32} (h : GROW m M) (ha : qtop m ≤ a) : GROW m (sfi M f a x) := ⟨h.top, h.ty, fun g b y => (up_up (fun q => by omega)).trans (h.fi g b y), h.fl, h.fr, h.ai, h.al, h.ar⟩
theorem GROW.sfl {f a : Nat} {x : Int64} (h : GROW m M) (ha : qtop m ≤ a) : GROW m (sfl M f a x) := ⟨h.top, h.ty, h.fi, fun g b y => (up_up (fun q => by omega)).trans (h.fl g b y), h.fr, h.ai, h.al, h.ar⟩
theorem GROW.sfr {f a : Nat} {x : Option Nat} (h : GROW m M) (ha : qtop m ≤ a) : GROW m (sfr M f a x) := ⟨h.top, h.ty, h.fi, h.fl, fun g b y => (up_up (fun q => by omega)).trans (h.fr g b y), h.ai, h.al, h.ar⟩
theorem GROW.qnewi {t n : Nat} {w : Nat → Int32} (h : GROW m M) : GROW m (qnewi M t n w) :=
  ⟨Nat.le_trans h.top (Nat.le_succ _), fun b y => (va_up_diff _ _ (by have := h.top; omega)).trans (h.ty b y), h.fi, h.fl, h.fr, fun b y => (va_up_diff _ _ (by have := h.top; omega)).trans (h.ai b y), h.al, h.ar⟩
theorem GROW.qnewr {c n : Nat} (h : GROW m M) : GROW m (qnewr M c n) :=
  ⟨Nat.le_trans h.top (Nat.le_succ _), fun b y => (va_up_diff _ _ (by have := h.top; omega)).trans (h.ty b y), h.fi, h.fl, h.fr, h.ai, h.al, fun b y => (va_up_diff _ _ (by have := h.top; omega)).trans (h.ar b y)⟩
theorem GROW.qnew {c : Nat} (h : GROW m M) : GROW m (qnew M c) :=
  ⟨Nat.le_trans h.top (Nat.le_succ _), fun b y => (va_up_diff _ _ (by have := h.top; omega)).trans (h.ty b y), fun f b y => (va_up_diff _ _ (by have := h.top; omega)).trans (h.fi f b y), fun f b y => (va_up_diff _ _ (by have := h.top; omega)).trans (h.fl f b y), fun f b y => (va_up_diff _ _ (by have := h.top; omega)).trans (h.fr f b y), h.ai, h.al, h.ar⟩
theorem GROW.imm {sv : Nat} (h : GROW m M) : IMM sv m M := ⟨h.top, fun b _ y => h.ty b y, fun f b _ _ y => h.fi f b y, fun f b _ _ y => h.fl f b y, fun f b _ _ y => h.fr f b y, fun b _ y => h.ai b y⟩
theorem GROW.kp {sv : Nat} (h : GROW m M) (ht : sv + 23 ≤ qtop m) : KP sv m M := ⟨h.top, fun b _ y => ⟨h.ty b (by omega), fun f => h.fi f b (by omega), fun f => h.fr f b (by omega), h.ai b (by omega), h.al b (by omega)⟩⟩
variable {sv : Nat} {G : GM} {S : MS}
theorem CF.grow (h : CF sv m) (g : GROW m M) : CF sv M := by
  have ht := h.top
  have z : ∀ z : Int, 0 ≤ z → z < 3 → zA sv z < qtop m := fun z _ _ => by unfold zA; omega
  have p : ∀ p : Int, 0 ≤ p → p < 5 → pA sv p + 1 < qtop m := fun p _ _ => by unfold pA; omega
  exact ⟨(g.ty _ (by omega)).trans h.ty, (g.fr _ _ (by omega)).trans h.f0, (g.fr _ _ (by omega)).trans h.f1, (g.fr _ _ (by omega)).trans h.f2, (g.fr _ _ (by omega)).trans h.f3, (g.fr _ _ (by omega)).trans h.f7, (g.fr _ _ (by omega)).trans h.f8,
    (g.ty _ (by omega)).trans h.t1, (g.ty _ (by omega)).trans h.t2, (g.ty _ (by omega)).trans h.t3, (g.ty _ (by omega)).trans h.t4, (g.ty _ (by omega)).trans h.t5, (g.ty _ (by omega)).trans h.t6,
    fun y a b => by rw [g.ar _ (by omega)]; exact h.zr y a b, fun y a b => (g.ty _ (z y a b)).trans (h.zt y a b), fun y a b => by rw [g.ar _ (by omega)]; exact h.pr y a b, fun y a b => (g.ty _ (by have := p y a b; omega)).trans (h.pt y a b), fun y a b => (g.fr _ _ (by have := p y a b; omega)).trans (h.pf y a b), fun y a b => (g.ty _ (p y a b)).trans (h.pe y a b), Nat.le_trans ht g.top⟩
theorem CR.grow (h : CR sv G S m) (g : GROW m M) : CR sv G S M := by
  have ht := h.cf.top
  have im := g.imm (sv := sv)
  have z : ∀ z : Int, 0 ≤ z → z < 3 → zA sv z < qtop m := fun z _ _ => by unfold zA; omega
  have p : ∀ p : Int, 0 ≤ p → p < 5 → pA sv p + 1 < qtop m := fun p _ _ => by unfold pA; omega
  refine ⟨h.cf.grow g, (g.fi _ _ (by omega)).trans h.f4, (g.fi _ _ (by omega)).trans h.f5, (g.fi _ _ (by omega)).trans h.f6, fun y a b => (g.fi _ _ (z y a b)).trans (h.z0 y a b), fun y a b => (g.fi _ _ (z y a b)).trans (h.z1 y a b), fun y a b c => (g.fi _ _ (z y a b)).trans (h.z2 y a b c),
    fun y a b => (g.fi _ _ (by have := p y a b; omega)).trans (h.p0 y a b), fun y a b => (g.fi _ _ (by have := p y a b; omega)).trans (h.p1 y a b), fun y i a b c d => by rw [g.ai _ (p y a b)]; exact h.pe y i a b c d, fun i a b => ?_, h.mi, fun k a b => ?_, h.gi⟩
  · have hm := h.mt i a b
    have hh := hm.hi
    exact hm.fr im (fun b x y => ⟨g.ty b (by omega), fun f _ => ⟨g.fi f b (by omega), g.fr f b (by omega)⟩, g.ar b (by omega)⟩) (by rw [g.ar _ (by omega)]) rfl rfl (fun _ _ _ => rfl) rfl rfl rfl (fun _ _ _ => rfl) (SV.refl _ _) (fun _ _ _ _ => SV.refl _ _) (fun _ _ _ _ _ _ => rfl) (fun _ _ _ _ _ _ => rfl)
  · have hg := h.mg k a b
    have hh := hg.hi
    exact hg.fr im (g.ty _ hh) (fun f _ => ⟨g.fi f _ hh, g.fr f _ hh⟩) (by rw [g.ar _ (by omega)]) rfl rfl rfl (fun _ _ _ => rfl) (fun _ => SV.refl _ _)
variable {a : Nat} {ri : Nat → Int} {rl : Nat → Int64} {rd : Int → Int}
theorem VR.w0 {x : Int} (h : VR sv m a ri rl rd) : VR sv (sfi m 320 a (I x)) a (updi ri 9 x) rl rd := ⟨h.lo, h.hi, h.ty, fi_s, h.f1, (fi_n (by decide)).trans h.f2, (fi_n (by decide)).trans h.f3, (fi_n (by decide)).trans h.f4, (fi_n (by decide)).trans h.f5, (fi_n (by decide)).trans h.f6, (fi_n (by decide)).trans h.f7, h.f8, h.f9, h.f10, (fi_n (by decide)).trans h.f14, (fi_n (by decide)).trans h.f15, (fi_n (by decide)).trans h.f16, h.dr, h.mr, h.sr⟩
theorem VR.w2 {x : Int} (h : VR sv m a ri rl rd) : VR sv (sfi m 322 a (I x)) a (updi ri 11 x) rl rd := ⟨h.lo, h.hi, h.ty, (fi_n (by decide)).trans h.f0, h.f1, fi_s, (fi_n (by decide)).trans h.f3, (fi_n (by decide)).trans h.f4, (fi_n (by decide)).trans h.f5, (fi_n (by decide)).trans h.f6, (fi_n (by decide)).trans h.f7, h.f8, h.f9, h.f10, (fi_n (by decide)).trans h.f14, (fi_n (by decide)).trans h.f15, (fi_n (by decide)).trans h.f16, h.dr, h.mr, h.sr⟩
theorem VR.w3 {x : Int} (h : VR sv m a ri rl rd) : VR sv (sfi m 323 a (I x)) a (updi ri 12 x) rl rd := ⟨h.lo, h.hi, h.ty, (fi_n (by decide)).trans h.f0, h.f1, (fi_n (by decide)).trans h.f2, fi_s, (fi_n (by decide)).trans h.f4, (fi_n (by decide)).trans h.f5, (fi_n (by decide)).trans h.f6, (fi_n (by decide)).trans h.f7, h.f8, h.f9, h.f10, (fi_n (by decide)).trans h.f14, (fi_n (by decide)).trans h.f15, (fi_n (by decide)).trans h.f16, h.dr, h.mr, h.sr⟩
theorem VR.w4 {x : Int} (h : VR sv m a ri rl rd) : VR sv (sfi m 324 a (I x)) a (updi ri 13 x) rl rd := ⟨h.lo, h.hi, h.ty, (fi_n (by decide)).trans h.f0, h.f1, (fi_n (by decide)).trans h.f2, (fi_n (by decide)).trans h.f3, fi_s, (fi_n (by decide)).trans h.f5, (fi_n (by decide)).trans h.f6, (fi_n (by decide)).trans h.f7, h.f8, h.f9, h.f10, (fi_n (by decide)).trans h.f14, (fi_n (by decide)).trans h.f15, (fi_n (by decide)).trans h.f16, h.dr, h.mr, h.sr⟩
theorem VR.w5 {x : Int} (h : VR sv m a ri rl rd) : VR sv (sfi m 325 a (I x)) a (updi ri 14 x) rl rd := ⟨h.lo, h.hi, h.ty, (fi_n (by decide)).trans h.f0, h.f1, (fi_n (by decide)).trans h.f2, (fi_n (by decide)).trans h.f3, (fi_n (by decide)).trans h.f4, fi_s, (fi_n (by decide)).trans h.f6, (fi_n (by decide)).trans h.f7, h.f8, h.f9, h.f10, (fi_n (by decide)).trans h.f14, (fi_n (by decide)).trans h.f15, (fi_n (by decide)).trans h.f16, h.dr, h.mr, h.sr⟩
theorem VR.w6 {x : Int} (h : VR sv m a ri rl rd) : VR sv (sfi m 326 a (I x)) a (updi ri 15 x) rl rd := ⟨h.lo, h.hi, h.ty, (fi_n (by decide)).trans h.f0, h.f1, (fi_n (by decide)).trans h.f2, (fi_n (by decide)).trans h.f3, (fi_n (by decide)).trans h.f4, (fi_n (by decide)).trans h.f5, fi_s, (fi_n (by decide)).trans h.f7, h.f8, h.f9, h.f10, (fi_n (by decide)).trans h.f14, (fi_n (by decide)).trans h.f15, (fi_n (by decide)).trans h.f16, h.dr, h.mr, h.sr⟩
theorem VR.w7 {x : Int} (h : VR sv m a ri rl rd) : VR sv (sfi m 327 a (I x)) a (updi ri 16 x) rl rd := ⟨h.lo, h.hi, h.ty, (fi_n (by decide)).trans h.f0, h.f1, (fi_n (by decide)).trans h.f2, (fi_n (by decide)).trans h.f3, (fi_n (by decide)).trans h.f4, (fi_n (by decide)).trans h.f5, (fi_n (by decide)).trans h.f6, fi_s, h.f8, h.f9, h.f10, (fi_n (by decide)).trans h.f14, (fi_n (by decide)).trans h.f15, (fi_n (by decide)).trans h.f16, h.dr, h.mr, h.sr⟩
theorem VR.w14 {x : Int} (h : VR sv m a ri rl rd) : VR sv (sfi m 334 a (I x)) a (updi ri 17 x) rl rd := ⟨h.lo, h.hi, h.ty, (fi_n (by decide)).trans h.f0, h.f1, (fi_n (by decide)).trans h.f2, (fi_n (by decide)).trans h.f3, (fi_n (by decide)).trans h.f4, (fi_n (by decide)).trans h.f5, (fi_n (by decide)).trans h.f6, (fi_n (by decide)).trans h.f7, h.f8, h.f9, h.f10, fi_s, (fi_n (by decide)).trans h.f15, (fi_n (by decide)).trans h.f16, h.dr, h.mr, h.sr⟩
theorem VR.w15 {x : Int} (h : VR sv m a ri rl rd) : VR sv (sfi m 335 a (I x)) a (updi ri 18 x) rl rd := ⟨h.lo, h.hi, h.ty, (fi_n (by decide)).trans h.f0, h.f1, (fi_n (by decide)).trans h.f2, (fi_n (by decide)).trans h.f3, (fi_n (by decide)).trans h.f4, (fi_n (by decide)).trans h.f5, (fi_n (by decide)).trans h.f6, (fi_n (by decide)).trans h.f7, h.f8, h.f9, h.f10, (fi_n (by decide)).trans h.f14, fi_s, (fi_n (by decide)).trans h.f16, h.dr, h.mr, h.sr⟩
theorem VR.w16 {x : Int} (h : VR sv m a ri rl rd) : VR sv (sfi m 336 a (I x)) a (updi ri 19 x) rl rd := ⟨h.lo, h.hi, h.ty, (fi_n (by decide)).trans h.f0, h.f1, (fi_n (by decide)).trans h.f2, (fi_n (by decide)).trans h.f3, (fi_n (by decide)).trans h.f4, (fi_n (by decide)).trans h.f5, (fi_n (by decide)).trans h.f6, (fi_n (by decide)).trans h.f7, h.f8, h.f9, h.f10, (fi_n (by decide)).trans h.f14, (fi_n (by decide)).trans h.f15, fi_s, h.dr, h.mr, h.sr⟩
theorem VR.w8 {x : Int64} (h : VR sv m a ri rl rd) : VR sv (sfl m 328 a x) a ri (updl rl 20 x) rd := ⟨h.lo, h.hi, h.ty, h.f0, h.f1, h.f2, h.f3, h.f4, h.f5, h.f6, h.f7, fl_s, (fl_n (by decide)).trans h.f9, (fl_n (by decide)).trans h.f10, h.f14, h.f15, h.f16, h.dr, h.mr, h.sr⟩
theorem VR.w9 {x : Int64} (h : VR sv m a ri rl rd) : VR sv (sfl m 329 a x) a ri (updl rl 21 x) rd := ⟨h.lo, h.hi, h.ty, h.f0, h.f1, h.f2, h.f3, h.f4, h.f5, h.f6, h.f7, (fl_n (by decide)).trans h.f8, fl_s, (fl_n (by decide)).trans h.f10, h.f14, h.f15, h.f16, h.dr, h.mr, h.sr⟩
theorem IMM.qnewi {t n : Nat} {w : Nat → Int32} : IMM sv m (qnewi m t n w) := (GROW.refl m).qnewi.imm
theorem VR.newI {t n : Nat} {w : Nat → Int32} (h : VR sv m a ri rl rd) : VR sv (qnewi m t n w) a ri rl rd := h.fr IMM.qnewi
theorem VR.wsr {b : Nat} {rd' : Int → Int} (h : VR sv m a ri rl rd) (hb : IA sv m b (std rd')) (hm : ∀ d, 0 ≤ d → d < 60 → hl (rl 22) d = true → rd' d % 2048 = rd d % 2048) : VR sv (sfr m 333 a (some b)) a ri rl rd' := by
  obtain ⟨b1, p1, q1⟩ := h.dr
  obtain ⟨b2, p2, q2⟩ := h.mr
  refine ⟨h.lo, h.hi, h.ty, h.f0, (fr_n (by decide)).trans h.f1, h.f2, h.f3, h.f4, h.f5, h.f6, h.f7, h.f8, h.f9, h.f10, h.f14, h.f15, h.f16, ⟨b1, (fr_n (by decide)).trans p1, q1⟩, ⟨b2, (fr_n (by decide)).trans p2, ?_⟩, ⟨b, fr_s, hb⟩⟩
  exact IA.congr (f := mvd (rl 22) rd) q2 (fun d x y => by
    unfold mvd
    by_cases c : hl (rl 22) d = true
    · rw [if_pos c, if_pos c, hm d x y c]
    · rw [if_neg c, if_neg c])
theorem VR.wmr {b : Nat} {x : Int64} {rd' : Int → Int} (h : VR sv m a ri rl rd) (hb : IA sv m b (mvd x rd')) (hs : ∀ d, 0 ≤ d → d < 60 → rd' d / 2048 = rd d / 2048) : VR sv (sfr m 332 a (some b)) a ri (updl rl 22 x) rd' := by
  obtain ⟨b1, p1, q1⟩ := h.dr
  obtain ⟨b3, p3, q3⟩ := h.sr
  refine ⟨h.lo, h.hi, h.ty, h.f0, (fr_n (by decide)).trans h.f1, h.f2, h.f3, h.f4, h.f5, h.f6, h.f7, h.f8, h.f9, h.f10, h.f14, h.f15, h.f16, ⟨b1, (fr_n (by decide)).trans p1, q1⟩, ⟨b, fr_s, hb⟩, ⟨b3, (fr_n (by decide)).trans p3, ?_⟩⟩
  exact IA.congr (f := std rd) q3 (fun d x y => by unfold std; rw [hs d x y])
theorem VR.wdr {b : Nat} {x : Int64} (h : VR sv m a ri rl rd) (hb : DR sv m b x) : VR sv (sfr (sfl m 330 a x) 331 a (some b)) a ri (updl rl 23 x) rd := by
  obtain ⟨b2, p2, q2⟩ := h.mr
  obtain ⟨b3, p3, q3⟩ := h.sr
  exact ⟨h.lo, h.hi, h.ty, h.f0, (fr_n (by decide)).trans h.f1, h.f2, h.f3, h.f4, h.f5, h.f6, h.f7, (fl_n (m := m) (f := 330) (a := a) (x := x) (by decide)).trans h.f8, (fl_n (m := m) (f := 330) (a := a) (x := x) (by decide)).trans h.f9, fl_s (m := m) (f := 330) (a := a) (x := x), h.f14, h.f15, h.f16, ⟨b, fr_s, hb⟩, ⟨b2, (fr_n (by decide)).trans p2, q2⟩, ⟨b3, (fr_n (by decide)).trans p3, q3⟩⟩
theorem setW_new (m : QM) (t n : Nat) (w0 w : Nat → Int32) : setW (qnewi m t n w0) (qtop m) w = qnewi m t n w := by
  show (_, m.2.1, m.2.2.1, m.2.2.2.1, va_up (va_up m.2.2.2.2.1 (qtop m) w0) (qtop m) w, _) = _
  rw [va_up_up]; rfl
theorem sai_new (m : QM) (t n : Nat) (w : Nat → Int32) (i : Nat) (x : Int32) : sai (qnewi m t n w) (qtop m) i x = qnewi m t n (va_up w i x) := by
  rw [← setW_new m t n w w, sai_setW, setW_new]
theorem new_ty (m : QM) (t n : Nat) (w : Nat → Int32) : qty (qnewi m t n w) (qtop m) = (2, t, n) := va_up_same _ _ _
theorem new_ai (m : QM) (t n : Nat) (w : Nat → Int32) : qai (qnewi m t n w) (qtop m) = w := va_up_same _ _ _
theorem x_newi {t cap : Nat} {n : Int} (h0 : 0 ≤ n) (h1 : n ≤ cap) (h2 : cap < 10000) : xnewi t (I n) cap m = some (.ok (some (qtop m)), qnewi m t n.toNat (fun _ => 0)) := by
  show (if 0 ≤ (I n).toInt ∧ (I n).toInt ≤ cap then some (Except.ok (some (qtop m)), Jvm.Pilot.CMeetingServerLaw_law_r1901_9528e9.qnewi m t (I n).toNatClampNeg (fun _ => 0)) else none) = _
  rw [toInt_I (by omega) (by omega), clamp_I h0 (by omega), if_pos ⟨h0, h1⟩]
theorem c_rowOf {v : Int} : F_X4_rowOf (I v) m = some (.ok (some (qtop m)), qnewi m 0 60 (fun y => if y < 60 then I v else 0)) := by
  unfold F_X4_rowOf F_J7_fill_53178
  simp only [xb_xp, xb_as]
  rw [gl60, xb_ok (x_newi (by decide) (by decide) (by decide)), xb_ok (x_len (new_ty _ _ _ _) (by decide))]
  have hT : ∀ j : Nat, j < 60 → va_up (fun y => if y < j then I v else (0 : Int32)) j (I v) = fun y => if y < j + 1 then I v else (0 : Int32) := fun j hj => by
    funext y
    by_cases e : y = j
    · subst e; rw [va_up_same, if_pos (by omega)]
    · rw [va_up_diff _ _ e]
      by_cases c : y < j
      · rw [if_pos c, if_pos (by omega)]
      · rw [if_neg c, if_neg (by omega)]
  have hrun := xl_run (c := fun (s4 : Int32) => xp (decide (s4 < I (60 : Nat)))) (b := fun (s4 : Int32) => xb (xsai (some (qtop m)) s4 (I v)) fun _ => xp (s4 + 1)) (fun j => I j) (fun j => qnewi m 0 60 (fun y => if y < j then I v else (0 : Int32))) 60 2000 (fun j hj => by rw [xp_ap, d_lt (by omega) (by omega) (by omega) (by omega), decide_eq_true (by omega)]) (fun j hj => by
    rw [xb_ok (x_sai (new_ty _ _ _ _) (by decide) (by omega) (by omega)), xp_ap, gl1, I_add, sai_new, show ((j : Int)).toNat = j by omega, hT j hj]; rfl) (by rw [xp_ap, d_lt (by omega) (by omega) (by omega) (by omega), decide_eq_false (by omega)]) (by decide)
  rw [show (fun y => if y < 0 then I v else (0 : Int32)) = fun _ => 0 from funext fun y => if_neg (Nat.not_lt_zero _)] at hrun
  exact xb_ok hrun
theorem IA_new {n : Nat} {w : Nat → Int32} {f : Int → Int} (hn : n = 60) (ht : sv + 23 ≤ qtop m) (h : ∀ d : Int, 0 ≤ d → d < 60 → w d.toNat = I (f d)) : IA sv (qnewi m 0 n w) (qtop m) f := by
  subst hn
  exact ⟨⟨ht, Nat.lt_succ_self _⟩, new_ty _ _ _ _, fun d x y => by rw [new_ai]; exact h d x y⟩
theorem x_clone {b : Nat} (ht : qty m b = (2, 0, 60)) : xclone (some b) 60 m = some (.ok (some (qtop m)), qnewi m 0 60 (qai m b)) := by
  show (if (qty m b).1 = 2 ∧ (qty m b).2.1 = 0 ∧ (qty m b).2.2 ≤ 60 then some (Except.ok (some (qtop m)), Jvm.Pilot.CMeetingServerLaw_law_r1901_9528e9.qnewi m 0 (qty m b).2.2 (qai m b)) else none) = _
  rw [ht, if_pos ⟨rfl, rfl, Nat.le_refl _⟩]
def MK (sv : Nat) (m M : QM) (a : Nat) (ri : Nat → Int) (rl : Nat → Int64) (rd : Int → Int) : Prop := VR sv M a ri rl rd ∧ GROW m M ∧ qtop m ≤ a
theorem c_putStand {d : Int} (h : MK sv m M a ri rl rd) (ht : sv + 23 ≤ qtop m) (h0 : 0 ≤ d) (h1 : d < 60) (hr : ∀ e, 0 ≤ e → e < 60 → 0 ≤ rd e) (hs : 0 ≤ ri 9) : ∃ M', F_X4_putStand a (I d) M = some (.ok (), M') ∧ MK sv m M' a ri rl (updd rd d (rd d % 2048 + 2048 * ri 9)) := by
  obtain ⟨hv, hg, ha⟩ := h
  obtain ⟨b, b1, b2⟩ := hv.sr
  have hv1 : VR sv (qnewi M 0 60 (va_up (qai M b) d.toNat (I (ri 9)))) a ri rl rd := hv.newI
  refine ⟨sfr (qnewi M 0 60 (va_up (qai M b) d.toNat (I (ri 9)))) 333 a (some (qtop M)), ?_, hv1.wsr (IA_new rfl (Nat.le_trans ht hg.top) (fun e x y => ?_)) (fun e x y _ => ?_), hg.qnewi.sfr ha, ha⟩
  · unfold F_X4_putStand
    simp only [xb_xp, xb_as]
    have hv0 : VR sv (sfr (qnewi M 0 60 (qai M b)) 333 a (some (qtop M))) a ri rl rd := (hv.newI (t := 0) (n := 60) (w := qai M b)).wsr (IA_new rfl (Nat.le_trans ht hg.top) (fun e x y => b2.2.2 e x y)) (fun _ _ _ _ => rfl)
    rw [c_isDay (by omega) (by omega), xb_xp, b2ne, show gD d = true from decide_eq_true (by omega), if_pos rfl]
    simp only [xb_as]
    rw [xb_ok (x_gr rfl hv.ty b1), xb_ok (x_clone b2.2.1), xb_ok (x_sr rfl (hv.newI (t := 0) (n := 60) (w := qai M b)).ty), xb_ok (x_gr rfl hv0.ty fr_s), xb_ok (x_gi rfl hv0.ty hv0.f0)]
    have ht2 : qty (sfr (qnewi M 0 60 (qai M b)) 333 a (some (qtop M))) (qtop M) = (2, 0, 60) := new_ty M 0 60 (qai M b)
    rw [xb_ok (x_sai ht2 (by decide) h0 (by omega)), xb_xp, xp_ap]
    have : sai (sfr (qnewi M 0 60 (qai M b)) 333 a (some (qtop M))) (qtop M) d.toNat (I (ri 9)) = sfr (sai (qnewi M 0 60 (qai M b)) (qtop M) d.toNat (I (ri 9))) 333 a (some (qtop M)) := rfl
    rw [this, sai_new]
  · show _ = I ((if e = d then rd d % 2048 + 2048 * ri 9 else rd e) / 2048)
    by_cases q : e = d
    · subst q
      rw [va_up_same, if_pos rfl, show (rd e % 2048 + 2048 * ri 9) / 2048 = ri 9 by omega]
    · rw [va_up_diff _ _ (by omega), if_neg q]; exact b2.2.2 e x y
  · unfold updd
    by_cases q : e = d
    · subst q; rw [if_pos rfl]; omega
    · rw [if_neg q]
theorem c_putMoved {d c : Int} {x : Int64} {rd' : Int → Int} (h : MK sv m M a ri rl rd) (ht : sv + 23 ≤ qtop m) (h0 : 0 ≤ d) (h1 : d < 60) (hc : -1 ≤ c) (hc2 : c < 1440) (hrd : ∀ e, 0 ≤ e → e < 60 → rd e % 2048 < 1440) (hm : ∀ e, 0 ≤ e → e < 60 → mvd x rd' e = if e = d then c else mvd (rl 22) rd e) (hs : ∀ e, 0 ≤ e → e < 60 → rd' e / 2048 = rd e / 2048) : ∃ M', F_X4_putMoved a (I d) (I c) M = some (.ok (), M') ∧ MK sv m M' a ri (updl rl 22 x) rd' := by
  obtain ⟨hv, hg, ha⟩ := h
  obtain ⟨b, b1, b2⟩ := hv.mr
  have hd := b2.2.2 d h0 h1
  have hmr : -1 ≤ mvd (rl 22) rd d ∧ mvd (rl 22) rd d < 2048 := by
    unfold mvd
    split
    · have := Int.emod_nonneg (rd d) (show (2048 : Int) ≠ 0 by decide); have := hrd d h0 h1; omega
    · omega
  unfold F_X4_putMoved
  simp only [xb_xp, xb_as]
  have hcmp : (if decide (¬ b2i (gD d) = 0) = true then xb (xgr 5 12 (some a)) fun v => xb (xai 0 v (I d)) fun v6 => xp (decide (¬ v6 = I c)) else xp false) M = some (.ok (decide (¬ mvd (rl 22) rd d = c)), M) := by
    rw [b2ne, show gD d = true from decide_eq_true (by omega), if_pos rfl, xb_ok (x_gr rfl hv.ty b1), xb_ok (ia_get b2 h0 h1), xp_ap, d_ne (by omega) (by omega) (by omega) (by omega)]
  rw [c_isDay (by omega) (by omega), xb_xp, xb_ok hcmp]
  by_cases q : mvd (rl 22) rd d = c
  · refine ⟨M, by rw [decide_eq_false (fun z => z q), if_neg (by decide)]; rfl, ?_, hg, ha⟩
    obtain ⟨b3, p3, q3⟩ := hv.sr
    refine ⟨hv.lo, hv.hi, hv.ty, hv.f0, hv.f1, hv.f2, hv.f3, hv.f4, hv.f5, hv.f6, hv.f7, hv.f8, hv.f9, hv.f10, hv.f14, hv.f15, hv.f16, hv.dr, ⟨b, b1, ?_⟩, ⟨b3, p3, IA.congr (f := std rd) q3 (fun e x y => by unfold std; rw [hs e x y])⟩⟩
    exact IA.congr (f := mvd (rl 22) rd) b2 (fun e y z => by
      show mvd x rd' e = _
      rw [hm e y z]
      by_cases k : e = d
      · subst k; rw [if_pos rfl, q]
      · rw [if_neg k])
  · have hv1 : VR sv (qnewi M 0 60 (va_up (qai M b) d.toNat (I c))) a ri rl rd := hv.newI
    refine ⟨sfr (qnewi M 0 60 (va_up (qai M b) d.toNat (I c))) 332 a (some (qtop M)), ?_, hv1.wmr (IA_new rfl (Nat.le_trans ht hg.top) (fun e y z => ?_)) hs, hg.qnewi.sfr ha, ha⟩
    · have hv0 : VR sv (qnewi M 0 60 (qai M b)) a ri rl rd := hv.newI
      rw [decide_eq_true q, if_pos rfl]
      simp only [xb_as]
      have ht2 : qty (sfr (qnewi M 0 60 (qai M b)) 332 a (some (qtop M))) (qtop M) = (2, 0, 60) := new_ty M 0 60 (qai M b)
      have ht3 : qty (sfr (qnewi M 0 60 (qai M b)) 332 a (some (qtop M))) a = (1, 5, 0) := hv0.ty
      rw [xb_ok (x_gr rfl hv.ty b1), xb_ok (x_clone b2.2.1), xb_ok (x_sr rfl hv0.ty), xb_ok (x_gr rfl ht3 fr_s), xb_ok (x_sai ht2 (by decide) h0 (by omega)), xb_xp, xp_ap]
      have : sai (sfr (qnewi M 0 60 (qai M b)) 332 a (some (qtop M))) (qtop M) d.toNat (I c) = sfr (sai (qnewi M 0 60 (qai M b)) (qtop M) d.toNat (I c)) 332 a (some (qtop M)) := rfl
      rw [this, sai_new]
    · rw [hm e y z]
      by_cases k : e = d
      · subst k; rw [va_up_same, if_pos rfl]
      · rw [va_up_diff _ _ (by omega), if_neg k]; exact b2.2.2 e y z
end C14
