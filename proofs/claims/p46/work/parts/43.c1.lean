theorem xb_xp {α β : Type} (a : α) (f : α → QX β) : xb (xp a) f = f a := id rfl
theorem xb_as {α β γ : Type} (x : QX α) (f : α → QX β) (g : β → QX γ) : xb (xb x f) g = xb x fun v => xb (f v) g := by
  funext m
  unfold xb
  cases x m with
  | none => rfl
  | some r => obtain ⟨r1, r2⟩ := r; cases r1 <;> rfl
theorem xb_er {α β : Type} {x : QX α} {f : α → QX β} {m m1 : QM} {e : Nat} (h : x m = some (.error e, m1)) : xb x f m = some (.error e, m1) := by unfold xb; rw [h]
theorem xp_ap {α : Type} (a : α) (m : QM) : xp a m = some (.ok a, m) := id rfl
theorem xth_ap {α : Type} (e : Nat) (m : QM) : (xth e : QX α) m = some (.error e, m) := id rfl
theorem xo_ok {α : Type} {c a : Nat} {f : Nat → QX α} {m : QM} (ht : qty m a = (1, c, 0)) : xo c (some a) f m = f a m := if_pos ht
theorem xb_xo {α β : Type} {c a : Nat} {g : Nat → QX α} {f : α → QX β} {m : QM} (ht : qty m a = (1, c, 0)) : xb (xo c (some a) g) f m = xb (g a) f m := by unfold xb; rw [xo_ok ht]
theorem xz_ok {b : Bool} {m : QM} : xz (b2i b) m = some (.ok (b2i b), m) := by cases b <;> rfl
theorem xb_xz {β : Type} (b : Bool) (f : Int32 → QX β) : xb (xz (b2i b)) f = f (b2i b) := by rw [xz_b2i]; rfl
theorem I_nat (n : Nat) : Int32.ofNat n = I n := (Int32.ofInt_eq_ofNat).symm
theorem x_gi {c k f a : Nat} {v : Int32} {m : QM} (hf : 64 * c + k = f) (ht : qty m a = (1, c, 0)) (hv : qfi m f a = v) : xgi c k (some a) m = some (.ok v, m) := by subst hf; subst hv; exact if_pos ht
theorem x_gl {c k f a : Nat} {v : Int64} {m : QM} (hf : 64 * c + k = f) (ht : qty m a = (1, c, 0)) (hv : qfl m f a = v) : xgl c k (some a) m = some (.ok v, m) := by subst hf; subst hv; exact if_pos ht
theorem x_gr {c k f a : Nat} {v : Option Nat} {m : QM} (hf : 64 * c + k = f) (ht : qty m a = (1, c, 0)) (hv : qfr m f a = v) : xgr c k (some a) m = some (.ok v, m) := by subst hf; subst hv; exact if_pos ht
theorem x_ai {u n a : Nat} {z : Int} {v : Int32} {m : QM} (ht : qty m a = (2, u, n)) (hn : n < 10000) (h0 : 0 ≤ z) (h1 : z < n) (hv : qai m a z.toNat = v) : xai u (some a) (I z) m = some (.ok v, m) := by
  subst hv
  rw [show xai u (some a) (I z) m = _ from xat_pos ht (by rw [toInt_I (by omega) (by omega)]; omega), clamp_I h0 (by omega)]
theorem x_ar {u n a : Nat} {z : Int} {v : Option Nat} {m : QM} (ht : qty m a = (4, u, n)) (hn : n < 10000) (h0 : 0 ≤ z) (h1 : z < n) (hv : qar m a z.toNat = v) : xar u (some a) (I z) m = some (.ok v, m) := by
  subst hv
  rw [show xar u (some a) (I z) m = _ from xat_pos ht (by rw [toInt_I (by omega) (by omega)]; omega), clamp_I h0 (by omega)]
theorem x_len {u n a : Nat} {m : QM} (ht : qty m a = (2, u, n)) (hu : u = 0 ∨ u = 2) : xlen (some a) m = some (.ok (I n), m) := by
  rw [← I_nat]
  show (if (qty m a).1 = 2 ∧ ((qty m a).2.1 = 0 ∨ (qty m a).2.1 = 2) ∨ (qty m a).1 = 4 ∧ 4 + (qty m a).2.1 ∈ qats then some (Except.ok (Int32.ofNat (qty m a).2.2), m) else none) = _
  rw [ht]; exact if_pos (Or.inl ⟨rfl, hu⟩)
theorem x_lenr {u n a : Nat} {m : QM} (ht : qty m a = (4, u, n)) (hu : 4 + u ∈ qats) : xlen (some a) m = some (.ok (I n), m) := by
  rw [← I_nat]
  show (if (qty m a).1 = 2 ∧ ((qty m a).2.1 = 0 ∨ (qty m a).2.1 = 2) ∨ (qty m a).1 = 4 ∧ 4 + (qty m a).2.1 ∈ qats then some (Except.ok (Int32.ofNat (qty m a).2.2), m) else none) = _
  rw [ht]; exact if_pos (Or.inr ⟨rfl, hu⟩)
theorem x_si {c k f a : Nat} {v : Int32} {m : QM} (hf : 64 * c + k = f) (ht : qty m a = (1, c, 0)) : xsi c k (some a) v m = some (.ok (), sfi m f a v) := by subst hf; exact if_pos ht
theorem x_sz {c k f a : Nat} {v : Int32} {m : QM} (hf : 64 * c + k = f) (ht : qty m a = (1, c, 0)) (hv : v = 0 ∨ v = 1) : xsz c k (some a) v m = some (.ok (), sfi m f a v) := by
  subst hf
  show (if qty m a = (1, c, 0) then (if v = 0 ∨ v = 1 then some (Except.ok (), sfi m (64 * c + k) a v) else none) else none) = _
  rw [if_pos ht, if_pos hv]
theorem x_sl {c k f a : Nat} {v : Int64} {m : QM} (hf : 64 * c + k = f) (ht : qty m a = (1, c, 0)) : xsl c k (some a) v m = some (.ok (), sfl m f a v) := by subst hf; exact if_pos ht
theorem x_sr {c k f a : Nat} {v : Option Nat} {m : QM} (hf : 64 * c + k = f) (ht : qty m a = (1, c, 0)) : xsr c k (some a) v m = some (.ok (), sfr m f a v) := by subst hf; exact if_pos ht
theorem x_sai {n a : Nat} {z : Int} {v : Int32} {m : QM} (ht : qty m a = (2, 0, n)) (hn : n < 10000) (h0 : 0 ≤ z) (h1 : z < n) : xsai (some a) (I z) v m = some (.ok (), sai m a z.toNat v) := by
  rw [show xsai (some a) (I z) v m = _ from xat_pos ht (by rw [toInt_I (by omega) (by omega)]; omega), clamp_I h0 (by omega)]
theorem x_sab {n a : Nat} {z : Int} {v : Int32} {m : QM} (ht : qty m a = (2, 2, n)) (hn : n < 10000) (h0 : 0 ≤ z) (h1 : z < n) (hv : v.toInt8.toInt32 = v) : xsab (some a) (I z) v m = some (.ok (), sai m a z.toNat v) := by
  rw [show xsab (some a) (I z) v m = _ from xat_pos ht (by rw [toInt_I (by omega) (by omega)]; omega), clamp_I h0 (by omega)]
  exact if_pos hv
theorem x_sar {c n a v : Nat} {z : Int} {m : QM} (ht : qty m a = (4, c, n)) (hn : n < 10000) (h0 : 0 ≤ z) (h1 : z < n) (hv : qty m v = (1, c, 0)) : xsar c (some a) (I z) (some v) m = some (.ok (), sar m a z.toNat (some v)) := by
  rw [show xsar c (some a) (I z) (some v) m = _ from xat_pos ht (by rw [toInt_I (by omega) (by omega)]; omega), clamp_I h0 (by omega)]
  exact if_pos hv
theorem xl_run {σ : Type} {c : σ → QX Bool} {b : σ → QX σ} (f : Nat → σ) (T : Nat → QM) (N : Nat) : ∀ n, (∀ j, j < N → c (f j) (T j) = some (.ok true, T j)) → (∀ j, j < N → b (f j) (T j) = some (.ok (f (j + 1)), T (j + 1))) → c (f N) (T N) = some (.ok false, T N) → N < n → xl n c b (f 0) (T 0) = some (.ok (f N), T N) := by
  have H : ∀ k n, k ≤ N → N - k < n → (∀ j, j < N → c (f j) (T j) = some (.ok true, T j)) → (∀ j, j < N → b (f j) (T j) = some (.ok (f (j + 1)), T (j + 1))) → c (f N) (T N) = some (.ok false, T N) → xl n c b (f k) (T k) = some (.ok (f N), T N) := by
    intro k n
    induction n generalizing k with
    | zero => intro _ h; exact absurd h (Nat.not_lt_zero _)
    | succ n ih =>
      intro hk hn h1 h2 h3
      unfold xl
      by_cases e : k = N
      · subst e; rw [xb_ok h3]; rfl
      · rw [xb_ok (h1 k (by omega))]
        show xb (b (f k)) (fun s' => xl n c b s') (T k) = _
        rw [xb_ok (h2 k (by omega))]
        exact ih (k + 1) (by omega) (by omega) h1 h2 h3
  intro n h1 h2 h3 hn
  exact H 0 n (by omega) (by omega) h1 h2 h3
abbrev GM : Type := (Int → Nat) × (Int → Nat) × (Int → Nat) × (Int → Nat) × (Int → Nat)
def am (G : GM) : Int → Nat := G.1
def an (G : GM) : Int → Nat := G.2.1
def ac (G : GM) : Int → Nat := G.2.2.1
def ag (G : GM) : Int → Nat := G.2.2.2.1
def av (G : GM) : Int → Nat := G.2.2.2.2
def zA (sv : Nat) (z : Int) : Nat := sv + 7 + z.toNat
def pA (sv : Nat) (p : Int) : Nat := sv + 10 + 2 * p.toNat
def IA (sv : Nat) (m : QM) (a : Nat) (f : Int → Int) : Prop := (sv + 23 ≤ a ∧ a < qtop m) ∧ qty m a = (2, 0, 60) ∧ ∀ d : Int, 0 ≤ d → d < 60 → qai m a d.toNat = I (f d)
def DR (sv : Nat) (m : QM) (a : Nat) (x : Int64) : Prop := (sv + 23 ≤ a ∧ a < qtop m) ∧ qty m a = (2, 0, (cnt (hl x) 60).toNat) ∧ ∀ j : Int, 0 ≤ j → j < cnt (hl x) 60 → qai m a j.toNat = I (nth (hl x) j 60)
def mvd (x : Int64) (rd : Int → Int) : Int → Int := fun d => if hl x d = true then rd d % 2048 else -1
def std (rd : Int → Int) : Int → Int := fun d => rd d / 2048
def cO (S : MS) (i p d : Int) (k : Int) : Bool := decide (ma S 31 k = 1) && decide (ma S 34 k = i) && decide (ma S 32 k = p) && decide (ma S 37 k = d)
def ownb (S : MS) (i p d : Int) : Int := bestTo S (cO S i p d) (mf S 29).toNat
def oad (G : GM) (x : Int) : Option Nat := if x = -1 then none else some (ag G x)
def VR (sv : Nat) (m : QM) (a : Nat) (ri : Nat → Int) (rl : Nat → Int64) (rd : Int → Int) : Prop :=
  (sv + 23 ≤ a) ∧ (a < qtop m) ∧ (qty m a = (1, 5, 0)) ∧ (qfi m 320 a = I (ri 9)) ∧ (qfr m 321 a = some (zA sv (ri 10))) ∧ (qfi m 322 a = I (ri 11)) ∧ (qfi m 323 a = I (ri 12)) ∧ (qfi m 324 a = I (ri 13)) ∧ (qfi m 325 a = I (ri 14)) ∧ (qfi m 326 a = I (ri 15)) ∧ (qfi m 327 a = I (ri 16)) ∧ (qfl m 328 a = rl 20) ∧ (qfl m 329 a = rl 21) ∧ (qfl m 330 a = rl 23) ∧ (qfi m 334 a = I (ri 17)) ∧ (qfi m 335 a = I (ri 18)) ∧ (qfi m 336 a = I (ri 19)) ∧ (∃ b, qfr m 331 a = some b ∧ DR sv m b (rl 23)) ∧ (∃ b, qfr m 332 a = some b ∧ IA sv m b (mvd (rl 22) rd)) ∧ (∃ b, qfr m 333 a = some b ∧ IA sv m b (std rd))
theorem VR.lo {sv : Nat} {m : QM} {a : Nat} {ri : Nat → Int} {rl : Nat → Int64} {rd : Int → Int} (h : VR sv m a ri rl rd) : sv + 23 ≤ a := h.1
theorem VR.hi {sv : Nat} {m : QM} {a : Nat} {ri : Nat → Int} {rl : Nat → Int64} {rd : Int → Int} (h : VR sv m a ri rl rd) : a < qtop m := h.2.1
theorem VR.ty {sv : Nat} {m : QM} {a : Nat} {ri : Nat → Int} {rl : Nat → Int64} {rd : Int → Int} (h : VR sv m a ri rl rd) : qty m a = (1, 5, 0) := h.2.2.1
theorem VR.f0 {sv : Nat} {m : QM} {a : Nat} {ri : Nat → Int} {rl : Nat → Int64} {rd : Int → Int} (h : VR sv m a ri rl rd) : qfi m 320 a = I (ri 9) := h.2.2.2.1
theorem VR.f1 {sv : Nat} {m : QM} {a : Nat} {ri : Nat → Int} {rl : Nat → Int64} {rd : Int → Int} (h : VR sv m a ri rl rd) : qfr m 321 a = some (zA sv (ri 10)) := h.2.2.2.2.1
theorem VR.f2 {sv : Nat} {m : QM} {a : Nat} {ri : Nat → Int} {rl : Nat → Int64} {rd : Int → Int} (h : VR sv m a ri rl rd) : qfi m 322 a = I (ri 11) := h.2.2.2.2.2.1
theorem VR.f3 {sv : Nat} {m : QM} {a : Nat} {ri : Nat → Int} {rl : Nat → Int64} {rd : Int → Int} (h : VR sv m a ri rl rd) : qfi m 323 a = I (ri 12) := h.2.2.2.2.2.2.1
theorem VR.f4 {sv : Nat} {m : QM} {a : Nat} {ri : Nat → Int} {rl : Nat → Int64} {rd : Int → Int} (h : VR sv m a ri rl rd) : qfi m 324 a = I (ri 13) := h.2.2.2.2.2.2.2.1
theorem VR.f5 {sv : Nat} {m : QM} {a : Nat} {ri : Nat → Int} {rl : Nat → Int64} {rd : Int → Int} (h : VR sv m a ri rl rd) : qfi m 325 a = I (ri 14) := h.2.2.2.2.2.2.2.2.1
theorem VR.f6 {sv : Nat} {m : QM} {a : Nat} {ri : Nat → Int} {rl : Nat → Int64} {rd : Int → Int} (h : VR sv m a ri rl rd) : qfi m 326 a = I (ri 15) := h.2.2.2.2.2.2.2.2.2.1
theorem VR.f7 {sv : Nat} {m : QM} {a : Nat} {ri : Nat → Int} {rl : Nat → Int64} {rd : Int → Int} (h : VR sv m a ri rl rd) : qfi m 327 a = I (ri 16) := h.2.2.2.2.2.2.2.2.2.2.1
theorem VR.f8 {sv : Nat} {m : QM} {a : Nat} {ri : Nat → Int} {rl : Nat → Int64} {rd : Int → Int} (h : VR sv m a ri rl rd) : qfl m 328 a = rl 20 := h.2.2.2.2.2.2.2.2.2.2.2.1
theorem VR.f9 {sv : Nat} {m : QM} {a : Nat} {ri : Nat → Int} {rl : Nat → Int64} {rd : Int → Int} (h : VR sv m a ri rl rd) : qfl m 329 a = rl 21 := h.2.2.2.2.2.2.2.2.2.2.2.2.1
theorem VR.f10 {sv : Nat} {m : QM} {a : Nat} {ri : Nat → Int} {rl : Nat → Int64} {rd : Int → Int} (h : VR sv m a ri rl rd) : qfl m 330 a = rl 23 := h.2.2.2.2.2.2.2.2.2.2.2.2.2.1
theorem VR.f14 {sv : Nat} {m : QM} {a : Nat} {ri : Nat → Int} {rl : Nat → Int64} {rd : Int → Int} (h : VR sv m a ri rl rd) : qfi m 334 a = I (ri 17) := h.2.2.2.2.2.2.2.2.2.2.2.2.2.2.1
theorem VR.f15 {sv : Nat} {m : QM} {a : Nat} {ri : Nat → Int} {rl : Nat → Int64} {rd : Int → Int} (h : VR sv m a ri rl rd) : qfi m 335 a = I (ri 18) := h.2.2.2.2.2.2.2.2.2.2.2.2.2.2.2.1
theorem VR.f16 {sv : Nat} {m : QM} {a : Nat} {ri : Nat → Int} {rl : Nat → Int64} {rd : Int → Int} (h : VR sv m a ri rl rd) : qfi m 336 a = I (ri 19) := h.2.2.2.2.2.2.2.2.2.2.2.2.2.2.2.2.1
theorem VR.dr {sv : Nat} {m : QM} {a : Nat} {ri : Nat → Int} {rl : Nat → Int64} {rd : Int → Int} (h : VR sv m a ri rl rd) : ∃ b, qfr m 331 a = some b ∧ DR sv m b (rl 23) := h.2.2.2.2.2.2.2.2.2.2.2.2.2.2.2.2.2.1
theorem VR.mr {sv : Nat} {m : QM} {a : Nat} {ri : Nat → Int} {rl : Nat → Int64} {rd : Int → Int} (h : VR sv m a ri rl rd) : ∃ b, qfr m 332 a = some b ∧ IA sv m b (mvd (rl 22) rd) := h.2.2.2.2.2.2.2.2.2.2.2.2.2.2.2.2.2.2.1
theorem VR.sr {sv : Nat} {m : QM} {a : Nat} {ri : Nat → Int} {rl : Nat → Int64} {rd : Int → Int} (h : VR sv m a ri rl rd) : ∃ b, qfr m 333 a = some b ∧ IA sv m b (std rd) := h.2.2.2.2.2.2.2.2.2.2.2.2.2.2.2.2.2.2.2
def VS (sv : Nat) (m : QM) (a : Nat) (S : MS) (v : Int) : Prop := VR sv m a (fun J => ma S J v) (fun J => ml S J v) (fun d => ma S 24 (60 * v + d))
def CF (sv : Nat) (m : QM) : Prop :=
  (qty m sv = (1, 7, 0)) ∧ (qfr m 448 sv = some (sv + 1)) ∧ (qfr m 449 sv = some (sv + 2)) ∧ (qfr m 450 sv = some (sv + 3)) ∧ (qfr m 451 sv = some (sv + 4)) ∧ (qfr m 455 sv = some (sv + 5)) ∧ (qfr m 456 sv = some (sv + 6)) ∧ (qty m (sv + 1) = (4, 6, 3)) ∧ (qty m (sv + 2) = (4, 3, 5)) ∧ (qty m (sv + 3) = (4, 1, 8)) ∧ (qty m (sv + 4) = (4, 2, 150)) ∧ (qty m (sv + 5) = (2, 0, 5)) ∧ (qty m (sv + 6) = (2, 2, 1649)) ∧ (∀ z : Int, 0 ≤ z → z < 3 → qar m (sv + 1) z.toNat = some (zA sv z)) ∧ (∀ z : Int, 0 ≤ z → z < 3 → qty m (zA sv z) = (1, 6, 0)) ∧ (∀ p : Int, 0 ≤ p → p < 5 → qar m (sv + 2) p.toNat = some (pA sv p)) ∧ (∀ p : Int, 0 ≤ p → p < 5 → qty m (pA sv p) = (1, 3, 0)) ∧ (∀ p : Int, 0 ≤ p → p < 5 → qfr m 194 (pA sv p) = some (pA sv p + 1)) ∧ (∀ p : Int, 0 ≤ p → p < 5 → qty m (pA sv p + 1) = (2, 0, 8)) ∧ (sv + 23 ≤ qtop m)
theorem CF.ty {sv : Nat} {m : QM} (h : CF sv m) : qty m sv = (1, 7, 0) := h.1
theorem CF.f0 {sv : Nat} {m : QM} (h : CF sv m) : qfr m 448 sv = some (sv + 1) := h.2.1
theorem CF.f1 {sv : Nat} {m : QM} (h : CF sv m) : qfr m 449 sv = some (sv + 2) := h.2.2.1
theorem CF.f2 {sv : Nat} {m : QM} (h : CF sv m) : qfr m 450 sv = some (sv + 3) := h.2.2.2.1
theorem CF.f3 {sv : Nat} {m : QM} (h : CF sv m) : qfr m 451 sv = some (sv + 4) := h.2.2.2.2.1
theorem CF.f7 {sv : Nat} {m : QM} (h : CF sv m) : qfr m 455 sv = some (sv + 5) := h.2.2.2.2.2.1
theorem CF.f8 {sv : Nat} {m : QM} (h : CF sv m) : qfr m 456 sv = some (sv + 6) := h.2.2.2.2.2.2.1
theorem CF.t1 {sv : Nat} {m : QM} (h : CF sv m) : qty m (sv + 1) = (4, 6, 3) := h.2.2.2.2.2.2.2.1
theorem CF.t2 {sv : Nat} {m : QM} (h : CF sv m) : qty m (sv + 2) = (4, 3, 5) := h.2.2.2.2.2.2.2.2.1
theorem CF.t3 {sv : Nat} {m : QM} (h : CF sv m) : qty m (sv + 3) = (4, 1, 8) := h.2.2.2.2.2.2.2.2.2.1
theorem CF.t4 {sv : Nat} {m : QM} (h : CF sv m) : qty m (sv + 4) = (4, 2, 150) := h.2.2.2.2.2.2.2.2.2.2.1
theorem CF.t5 {sv : Nat} {m : QM} (h : CF sv m) : qty m (sv + 5) = (2, 0, 5) := h.2.2.2.2.2.2.2.2.2.2.2.1
theorem CF.t6 {sv : Nat} {m : QM} (h : CF sv m) : qty m (sv + 6) = (2, 2, 1649) := h.2.2.2.2.2.2.2.2.2.2.2.2.1
theorem CF.zr {sv : Nat} {m : QM} (h : CF sv m) : ∀ z : Int, 0 ≤ z → z < 3 → qar m (sv + 1) z.toNat = some (zA sv z) := h.2.2.2.2.2.2.2.2.2.2.2.2.2.1
theorem CF.zt {sv : Nat} {m : QM} (h : CF sv m) : ∀ z : Int, 0 ≤ z → z < 3 → qty m (zA sv z) = (1, 6, 0) := h.2.2.2.2.2.2.2.2.2.2.2.2.2.2.1
theorem CF.pr {sv : Nat} {m : QM} (h : CF sv m) : ∀ p : Int, 0 ≤ p → p < 5 → qar m (sv + 2) p.toNat = some (pA sv p) := h.2.2.2.2.2.2.2.2.2.2.2.2.2.2.2.1
theorem CF.pt {sv : Nat} {m : QM} (h : CF sv m) : ∀ p : Int, 0 ≤ p → p < 5 → qty m (pA sv p) = (1, 3, 0) := h.2.2.2.2.2.2.2.2.2.2.2.2.2.2.2.2.1
theorem CF.pf {sv : Nat} {m : QM} (h : CF sv m) : ∀ p : Int, 0 ≤ p → p < 5 → qfr m 194 (pA sv p) = some (pA sv p + 1) := h.2.2.2.2.2.2.2.2.2.2.2.2.2.2.2.2.2.1
theorem CF.pe {sv : Nat} {m : QM} (h : CF sv m) : ∀ p : Int, 0 ≤ p → p < 5 → qty m (pA sv p + 1) = (2, 0, 8) := h.2.2.2.2.2.2.2.2.2.2.2.2.2.2.2.2.2.2.1
theorem CF.top {sv : Nat} {m : QM} (h : CF sv m) : sv + 23 ≤ qtop m := h.2.2.2.2.2.2.2.2.2.2.2.2.2.2.2.2.2.2.2
def MT (sv : Nat) (G : GM) (S : MS) (m : QM) (i : Int) : Prop :=
  (sv + 23 ≤ am G i) ∧ (am G i + 10 ≤ qtop m) ∧ (qar m (sv + 3) i.toNat = some (am G i)) ∧ (qty m (am G i) = (1, 1, 0)) ∧ (qfi m 64 (am G i) = I i) ∧ (qfi m 65 (am G i) = I (ma S 4 i)) ∧ (qfr m 66 (am G i) = some (an G i)) ∧ (qfr m 67 (am G i) = some (am G i + 5)) ∧ (qfi m 68 (am G i) = I (ma S 6 i)) ∧ (qfr m 69 (am G i) = some (am G i + 6)) ∧ (qfr m 70 (am G i) = some (am G i + 8)) ∧ (qty m (am G i + 5) = (4, 5, 5)) ∧ (qty m (am G i + 6) = (1, 4, 0)) ∧ (qty m (am G i + 7) = (4, 2, 305)) ∧ (qty m (am G i + 8) = (1, 4, 0)) ∧ (qty m (am G i + 9) = (4, 2, 305)) ∧ (qfr m 256 (am G i + 6) = some (am G i + 7)) ∧ (qfr m 256 (am G i + 8) = some (am G i + 9)) ∧ (VS sv m (an G i) S (ma S 5 i)) ∧ (∀ p : Int, 0 ≤ p → p < 5 → ma S 25 (8 * p + i) = -1 → qar m (am G i + 5) p.toNat = none) ∧ (∀ p : Int, 0 ≤ p → p < 5 → ma S 25 (8 * p + i) ≠ -1 → qar m (am G i + 5) p.toNat = some (ac G (8 * p + i)) ∧ VS sv m (ac G (8 * p + i)) S (ma S 25 (8 * p + i))) ∧ (∀ p d : Int, 0 ≤ p → p < 5 → -1 ≤ d → d < 60 → qar m (am G i + 7) (61 * p + d + 1).toNat = oad G (kept S i p d)) ∧ (∀ p d : Int, 0 ≤ p → p < 5 → -1 ≤ d → d < 60 → qar m (am G i + 9) (61 * p + d + 1).toNat = oad G (ownb S i p d))
theorem MT.lo {sv : Nat} {G : GM} {S : MS} {m : QM} {i : Int} (h : MT sv G S m i) : sv + 23 ≤ am G i := h.1
theorem MT.hi {sv : Nat} {G : GM} {S : MS} {m : QM} {i : Int} (h : MT sv G S m i) : am G i + 10 ≤ qtop m := h.2.1
theorem MT.pl {sv : Nat} {G : GM} {S : MS} {m : QM} {i : Int} (h : MT sv G S m i) : qar m (sv + 3) i.toNat = some (am G i) := h.2.2.1
theorem MT.ty {sv : Nat} {G : GM} {S : MS} {m : QM} {i : Int} (h : MT sv G S m i) : qty m (am G i) = (1, 1, 0) := h.2.2.2.1
theorem MT.f0 {sv : Nat} {G : GM} {S : MS} {m : QM} {i : Int} (h : MT sv G S m i) : qfi m 64 (am G i) = I i := h.2.2.2.2.1
theorem MT.f1 {sv : Nat} {G : GM} {S : MS} {m : QM} {i : Int} (h : MT sv G S m i) : qfi m 65 (am G i) = I (ma S 4 i) := h.2.2.2.2.2.1
theorem MT.f2 {sv : Nat} {G : GM} {S : MS} {m : QM} {i : Int} (h : MT sv G S m i) : qfr m 66 (am G i) = some (an G i) := h.2.2.2.2.2.2.1
theorem MT.f3 {sv : Nat} {G : GM} {S : MS} {m : QM} {i : Int} (h : MT sv G S m i) : qfr m 67 (am G i) = some (am G i + 5) := h.2.2.2.2.2.2.2.1
theorem MT.f4 {sv : Nat} {G : GM} {S : MS} {m : QM} {i : Int} (h : MT sv G S m i) : qfi m 68 (am G i) = I (ma S 6 i) := h.2.2.2.2.2.2.2.2.1
theorem MT.f5 {sv : Nat} {G : GM} {S : MS} {m : QM} {i : Int} (h : MT sv G S m i) : qfr m 69 (am G i) = some (am G i + 6) := h.2.2.2.2.2.2.2.2.2.1
theorem MT.f6 {sv : Nat} {G : GM} {S : MS} {m : QM} {i : Int} (h : MT sv G S m i) : qfr m 70 (am G i) = some (am G i + 8) := h.2.2.2.2.2.2.2.2.2.2.1
theorem MT.t5 {sv : Nat} {G : GM} {S : MS} {m : QM} {i : Int} (h : MT sv G S m i) : qty m (am G i + 5) = (4, 5, 5) := h.2.2.2.2.2.2.2.2.2.2.2.1
theorem MT.t6 {sv : Nat} {G : GM} {S : MS} {m : QM} {i : Int} (h : MT sv G S m i) : qty m (am G i + 6) = (1, 4, 0) := h.2.2.2.2.2.2.2.2.2.2.2.2.1
theorem MT.t7 {sv : Nat} {G : GM} {S : MS} {m : QM} {i : Int} (h : MT sv G S m i) : qty m (am G i + 7) = (4, 2, 305) := h.2.2.2.2.2.2.2.2.2.2.2.2.2.1
theorem MT.t8 {sv : Nat} {G : GM} {S : MS} {m : QM} {i : Int} (h : MT sv G S m i) : qty m (am G i + 8) = (1, 4, 0) := h.2.2.2.2.2.2.2.2.2.2.2.2.2.2.1
theorem MT.t9 {sv : Nat} {G : GM} {S : MS} {m : QM} {i : Int} (h : MT sv G S m i) : qty m (am G i + 9) = (4, 2, 305) := h.2.2.2.2.2.2.2.2.2.2.2.2.2.2.2.1
theorem MT.r6 {sv : Nat} {G : GM} {S : MS} {m : QM} {i : Int} (h : MT sv G S m i) : qfr m 256 (am G i + 6) = some (am G i + 7) := h.2.2.2.2.2.2.2.2.2.2.2.2.2.2.2.2.1
theorem MT.r8 {sv : Nat} {G : GM} {S : MS} {m : QM} {i : Int} (h : MT sv G S m i) : qfr m 256 (am G i + 8) = some (am G i + 9) := h.2.2.2.2.2.2.2.2.2.2.2.2.2.2.2.2.2.1
theorem MT.now {sv : Nat} {G : GM} {S : MS} {m : QM} {i : Int} (h : MT sv G S m i) : VS sv m (an G i) S (ma S 5 i) := h.2.2.2.2.2.2.2.2.2.2.2.2.2.2.2.2.2.2.1
theorem MT.cn {sv : Nat} {G : GM} {S : MS} {m : QM} {i : Int} (h : MT sv G S m i) : ∀ p : Int, 0 ≤ p → p < 5 → ma S 25 (8 * p + i) = -1 → qar m (am G i + 5) p.toNat = none := h.2.2.2.2.2.2.2.2.2.2.2.2.2.2.2.2.2.2.2.1
theorem MT.cs {sv : Nat} {G : GM} {S : MS} {m : QM} {i : Int} (h : MT sv G S m i) : ∀ p : Int, 0 ≤ p → p < 5 → ma S 25 (8 * p + i) ≠ -1 → qar m (am G i + 5) p.toNat = some (ac G (8 * p + i)) ∧ VS sv m (ac G (8 * p + i)) S (ma S 25 (8 * p + i)) := h.2.2.2.2.2.2.2.2.2.2.2.2.2.2.2.2.2.2.2.2.1
theorem MT.kn {sv : Nat} {G : GM} {S : MS} {m : QM} {i : Int} (h : MT sv G S m i) : ∀ p d : Int, 0 ≤ p → p < 5 → -1 ≤ d → d < 60 → qar m (am G i + 7) (61 * p + d + 1).toNat = oad G (kept S i p d) := h.2.2.2.2.2.2.2.2.2.2.2.2.2.2.2.2.2.2.2.2.2.1
theorem MT.ow {sv : Nat} {G : GM} {S : MS} {m : QM} {i : Int} (h : MT sv G S m i) : ∀ p d : Int, 0 ≤ p → p < 5 → -1 ≤ d → d < 60 → qar m (am G i + 9) (61 * p + d + 1).toNat = oad G (ownb S i p d) := h.2.2.2.2.2.2.2.2.2.2.2.2.2.2.2.2.2.2.2.2.2.2
def MG (sv : Nat) (G : GM) (S : MS) (m : QM) (k : Int) : Prop :=
  (sv + 23 ≤ ag G k) ∧ (ag G k < qtop m) ∧ (qty m (ag G k) = (1, 2, 0)) ∧ (qar m (sv + 4) k.toNat = some (ag G k)) ∧ (qfi m 128 (ag G k) = I (ma S 31 k)) ∧ (qfr m 129 (ag G k) = some (am G (ma S 34 k))) ∧ (qfi m 130 (ag G k) = I (ma S 32 k)) ∧ (qfi m 131 (ag G k) = I (ma S 33 k)) ∧ (qfr m 132 (ag G k) = some (av G k)) ∧ (sv + 23 ≤ av G k) ∧ (av G k < qtop m) ∧ (qty m (av G k) = (1, 5, 0)) ∧ (qfi m 320 (av G k) = I (ma S 36 k)) ∧ (ma S 31 k = 0 → VS sv m (av G k) S (ma S 35 k)) ∧ (qfi m 133 (ag G k) = I (ma S 37 k)) ∧ (ma S 31 k = 2 → qfi m 134 (ag G k) = I (ma S 41 k)) ∧ (ma S 31 k = 1 → qfi m 135 (ag G k) = I (ma S 38 k)) ∧ (ma S 31 k = 1 → qfi m 136 (ag G k) = I (if ma S 38 k = 4 then ma S 40 k else -1)) ∧ (ma S 31 k = 1 → qfi m 137 (ag G k) = I (ma S 39 k)) ∧ (ma S 31 k ≠ 0 → qfi m 138 (ag G k) = I (ma S 42 k)) ∧ (ma S 31 k = 2 → qfi m 139 (ag G k) = I (ma S 43 k))
theorem MG.lo {sv : Nat} {G : GM} {S : MS} {m : QM} {k : Int} (h : MG sv G S m k) : sv + 23 ≤ ag G k := h.1
theorem MG.hi {sv : Nat} {G : GM} {S : MS} {m : QM} {k : Int} (h : MG sv G S m k) : ag G k < qtop m := h.2.1
theorem MG.ty {sv : Nat} {G : GM} {S : MS} {m : QM} {k : Int} (h : MG sv G S m k) : qty m (ag G k) = (1, 2, 0) := h.2.2.1
theorem MG.pl {sv : Nat} {G : GM} {S : MS} {m : QM} {k : Int} (h : MG sv G S m k) : qar m (sv + 4) k.toNat = some (ag G k) := h.2.2.2.1
theorem MG.f0 {sv : Nat} {G : GM} {S : MS} {m : QM} {k : Int} (h : MG sv G S m k) : qfi m 128 (ag G k) = I (ma S 31 k) := h.2.2.2.2.1
theorem MG.f1 {sv : Nat} {G : GM} {S : MS} {m : QM} {k : Int} (h : MG sv G S m k) : qfr m 129 (ag G k) = some (am G (ma S 34 k)) := h.2.2.2.2.2.1
theorem MG.f2 {sv : Nat} {G : GM} {S : MS} {m : QM} {k : Int} (h : MG sv G S m k) : qfi m 130 (ag G k) = I (ma S 32 k) := h.2.2.2.2.2.2.1
theorem MG.f3 {sv : Nat} {G : GM} {S : MS} {m : QM} {k : Int} (h : MG sv G S m k) : qfi m 131 (ag G k) = I (ma S 33 k) := h.2.2.2.2.2.2.2.1
theorem MG.f4 {sv : Nat} {G : GM} {S : MS} {m : QM} {k : Int} (h : MG sv G S m k) : qfr m 132 (ag G k) = some (av G k) := h.2.2.2.2.2.2.2.2.1
theorem MG.vlo {sv : Nat} {G : GM} {S : MS} {m : QM} {k : Int} (h : MG sv G S m k) : sv + 23 ≤ av G k := h.2.2.2.2.2.2.2.2.2.1
theorem MG.vhi {sv : Nat} {G : GM} {S : MS} {m : QM} {k : Int} (h : MG sv G S m k) : av G k < qtop m := h.2.2.2.2.2.2.2.2.2.2.1
theorem MG.vty {sv : Nat} {G : GM} {S : MS} {m : QM} {k : Int} (h : MG sv G S m k) : qty m (av G k) = (1, 5, 0) := h.2.2.2.2.2.2.2.2.2.2.2.1
theorem MG.v0 {sv : Nat} {G : GM} {S : MS} {m : QM} {k : Int} (h : MG sv G S m k) : qfi m 320 (av G k) = I (ma S 36 k) := h.2.2.2.2.2.2.2.2.2.2.2.2.1
theorem MG.vs {sv : Nat} {G : GM} {S : MS} {m : QM} {k : Int} (h : MG sv G S m k) : ma S 31 k = 0 → VS sv m (av G k) S (ma S 35 k) := h.2.2.2.2.2.2.2.2.2.2.2.2.2.1
theorem MG.f5 {sv : Nat} {G : GM} {S : MS} {m : QM} {k : Int} (h : MG sv G S m k) : qfi m 133 (ag G k) = I (ma S 37 k) := h.2.2.2.2.2.2.2.2.2.2.2.2.2.2.1
theorem MG.f6 {sv : Nat} {G : GM} {S : MS} {m : QM} {k : Int} (h : MG sv G S m k) : ma S 31 k = 2 → qfi m 134 (ag G k) = I (ma S 41 k) := h.2.2.2.2.2.2.2.2.2.2.2.2.2.2.2.1
theorem MG.f7 {sv : Nat} {G : GM} {S : MS} {m : QM} {k : Int} (h : MG sv G S m k) : ma S 31 k = 1 → qfi m 135 (ag G k) = I (ma S 38 k) := h.2.2.2.2.2.2.2.2.2.2.2.2.2.2.2.2.1
theorem MG.f8 {sv : Nat} {G : GM} {S : MS} {m : QM} {k : Int} (h : MG sv G S m k) : ma S 31 k = 1 → qfi m 136 (ag G k) = I (if ma S 38 k = 4 then ma S 40 k else -1) := h.2.2.2.2.2.2.2.2.2.2.2.2.2.2.2.2.2.1
theorem MG.f9 {sv : Nat} {G : GM} {S : MS} {m : QM} {k : Int} (h : MG sv G S m k) : ma S 31 k = 1 → qfi m 137 (ag G k) = I (ma S 39 k) := h.2.2.2.2.2.2.2.2.2.2.2.2.2.2.2.2.2.2.1
theorem MG.f10 {sv : Nat} {G : GM} {S : MS} {m : QM} {k : Int} (h : MG sv G S m k) : ma S 31 k ≠ 0 → qfi m 138 (ag G k) = I (ma S 42 k) := h.2.2.2.2.2.2.2.2.2.2.2.2.2.2.2.2.2.2.2.1
theorem MG.f11 {sv : Nat} {G : GM} {S : MS} {m : QM} {k : Int} (h : MG sv G S m k) : ma S 31 k = 2 → qfi m 139 (ag G k) = I (ma S 43 k) := h.2.2.2.2.2.2.2.2.2.2.2.2.2.2.2.2.2.2.2.2
def CR (sv : Nat) (G : GM) (S : MS) (m : QM) : Prop :=
  (CF sv m) ∧ (qfi m 452 sv = I (mf S 3)) ∧ (qfi m 453 sv = I (mf S 29)) ∧ (qfi m 454 sv = I (mf S 30)) ∧ (∀ z : Int, 0 ≤ z → z < 3 → qfi m 384 (zA sv z) = I (ma S 0 z)) ∧ (∀ z : Int, 0 ≤ z → z < 3 → qfi m 385 (zA sv z) = I (ma S 1 z)) ∧ (∀ z : Int, 0 ≤ z → z < 3 → ma S 1 z ≠ -1 → qfi m 386 (zA sv z) = I (ma S 2 z)) ∧ (∀ p : Int, 0 ≤ p → p < 5 → qfi m 192 (pA sv p) = I (ma S 27 p)) ∧ (∀ p : Int, 0 ≤ p → p < 5 → qfi m 193 (pA sv p) = I (ma S 28 p)) ∧ (∀ p i : Int, 0 ≤ p → p < 5 → 0 ≤ i → i < 8 → qai m (pA sv p + 1) i.toNat = I (ma S 26 (8 * p + i))) ∧ (∀ i : Int, 0 ≤ i → i < mf S 3 → MT sv G S m i) ∧ (∀ i j : Int, 0 ≤ i → i < j → j < mf S 3 → am G i + 10 ≤ am G j) ∧ (∀ k : Int, 0 ≤ k → k < mf S 29 → MG sv G S m k) ∧ (∀ k l : Int, 0 ≤ k → k < l → l < mf S 29 → ag G k < ag G l)
theorem CR.cf {sv : Nat} {G : GM} {S : MS} {m : QM} (h : CR sv G S m) : CF sv m := h.1
theorem CR.f4 {sv : Nat} {G : GM} {S : MS} {m : QM} (h : CR sv G S m) : qfi m 452 sv = I (mf S 3) := h.2.1
theorem CR.f5 {sv : Nat} {G : GM} {S : MS} {m : QM} (h : CR sv G S m) : qfi m 453 sv = I (mf S 29) := h.2.2.1
theorem CR.f6 {sv : Nat} {G : GM} {S : MS} {m : QM} (h : CR sv G S m) : qfi m 454 sv = I (mf S 30) := h.2.2.2.1
theorem CR.z0 {sv : Nat} {G : GM} {S : MS} {m : QM} (h : CR sv G S m) : ∀ z : Int, 0 ≤ z → z < 3 → qfi m 384 (zA sv z) = I (ma S 0 z) := h.2.2.2.2.1
theorem CR.z1 {sv : Nat} {G : GM} {S : MS} {m : QM} (h : CR sv G S m) : ∀ z : Int, 0 ≤ z → z < 3 → qfi m 385 (zA sv z) = I (ma S 1 z) := h.2.2.2.2.2.1
theorem CR.z2 {sv : Nat} {G : GM} {S : MS} {m : QM} (h : CR sv G S m) : ∀ z : Int, 0 ≤ z → z < 3 → ma S 1 z ≠ -1 → qfi m 386 (zA sv z) = I (ma S 2 z) := h.2.2.2.2.2.2.1
theorem CR.p0 {sv : Nat} {G : GM} {S : MS} {m : QM} (h : CR sv G S m) : ∀ p : Int, 0 ≤ p → p < 5 → qfi m 192 (pA sv p) = I (ma S 27 p) := h.2.2.2.2.2.2.2.1
theorem CR.p1 {sv : Nat} {G : GM} {S : MS} {m : QM} (h : CR sv G S m) : ∀ p : Int, 0 ≤ p → p < 5 → qfi m 193 (pA sv p) = I (ma S 28 p) := h.2.2.2.2.2.2.2.2.1
theorem CR.pe {sv : Nat} {G : GM} {S : MS} {m : QM} (h : CR sv G S m) : ∀ p i : Int, 0 ≤ p → p < 5 → 0 ≤ i → i < 8 → qai m (pA sv p + 1) i.toNat = I (ma S 26 (8 * p + i)) := h.2.2.2.2.2.2.2.2.2.1
theorem CR.mt {sv : Nat} {G : GM} {S : MS} {m : QM} (h : CR sv G S m) : ∀ i : Int, 0 ≤ i → i < mf S 3 → MT sv G S m i := h.2.2.2.2.2.2.2.2.2.2.1
theorem CR.mi {sv : Nat} {G : GM} {S : MS} {m : QM} (h : CR sv G S m) : ∀ i j : Int, 0 ≤ i → i < j → j < mf S 3 → am G i + 10 ≤ am G j := h.2.2.2.2.2.2.2.2.2.2.2.1
theorem CR.mg {sv : Nat} {G : GM} {S : MS} {m : QM} (h : CR sv G S m) : ∀ k : Int, 0 ≤ k → k < mf S 29 → MG sv G S m k := h.2.2.2.2.2.2.2.2.2.2.2.2.1
theorem CR.gi {sv : Nat} {G : GM} {S : MS} {m : QM} (h : CR sv G S m) : ∀ k l : Int, 0 ≤ k → k < l → l < mf S 29 → ag G k < ag G l := h.2.2.2.2.2.2.2.2.2.2.2.2.2
theorem ys1 {β : Type} {sv : Nat} {m : QM} {f : Option Nat → QX β} (h : CF sv m) : xb (xgr 7 1 (some sv)) f m = f (some (sv + 2)) m := xb_ok (x_gr rfl h.ty h.f1)
theorem ys2 {β : Type} {sv : Nat} {m : QM} {f : Option Nat → QX β} (h : CF sv m) : xb (xgr 7 2 (some sv)) f m = f (some (sv + 3)) m := xb_ok (x_gr rfl h.ty h.f2)
theorem ys3 {β : Type} {sv : Nat} {m : QM} {f : Option Nat → QX β} (h : CF sv m) : xb (xgr 7 3 (some sv)) f m = f (some (sv + 4)) m := xb_ok (x_gr rfl h.ty h.f3)
theorem ys7 {β : Type} {sv : Nat} {m : QM} {f : Option Nat → QX β} (h : CF sv m) : xb (xgr 7 7 (some sv)) f m = f (some (sv + 5)) m := xb_ok (x_gr rfl h.ty h.f7)
theorem ys8 {β : Type} {sv : Nat} {m : QM} {f : Option Nat → QX β} (h : CF sv m) : xb (xgr 7 8 (some sv)) f m = f (some (sv + 6)) m := xb_ok (x_gr rfl h.ty h.f8)
theorem os {α : Type} {sv : Nat} {m : QM} {f : Nat → QX α} (h : CF sv m) : xo 7 (some sv) f m = f sv m := xo_ok h.ty
theorem os_b {α β : Type} {sv : Nat} {m : QM} {g : Nat → QX α} {f : α → QX β} (h : CF sv m) : xb (xo 7 (some sv) g) f m = xb (g sv) f m := xb_xo h.ty
theorem ys4 {β : Type} {sv : Nat} {m : QM} {G : GM} {S : MS} {f : Int32 → QX β} (h : CR sv G S m) : xb (xgi 7 4 (some sv)) f m = f (I (mf S 3)) m := xb_ok (x_gi rfl h.cf.ty h.f4)
theorem ys5 {β : Type} {sv : Nat} {m : QM} {G : GM} {S : MS} {f : Int32 → QX β} (h : CR sv G S m) : xb (xgi 7 5 (some sv)) f m = f (I (mf S 29)) m := xb_ok (x_gi rfl h.cf.ty h.f5)
theorem oz {α : Type} {sv : Nat} {m : QM} {f : Nat → QX α} (h : CF sv m) {z : Int} (h0 : 0 ≤ z) (h1 : z < 3) : xo 6 (some (zA sv z)) f m = f (zA sv z) m := xo_ok (h.zt z h0 h1)
theorem oz_b {α β : Type} {sv : Nat} {m : QM} {g : Nat → QX α} {f : α → QX β} (h : CF sv m) {z : Int} (h0 : 0 ≤ z) (h1 : z < 3) : xb (xo 6 (some (zA sv z)) g) f m = xb (g (zA sv z)) f m := xb_xo (h.zt z h0 h1)
theorem yz0 {β : Type} {sv : Nat} {m : QM} {G : GM} {S : MS} {f : Int32 → QX β} (h : CR sv G S m) {z : Int} (h0 : 0 ≤ z) (h1 : z < 3) : xb (xgi 6 0 (some (zA sv z))) f m = f (I (ma S 0 z)) m := xb_ok (x_gi rfl (h.cf.zt z h0 h1) (h.z0 z h0 h1))
theorem yz1 {β : Type} {sv : Nat} {m : QM} {G : GM} {S : MS} {f : Int32 → QX β} (h : CR sv G S m) {z : Int} (h0 : 0 ≤ z) (h1 : z < 3) : xb (xgi 6 1 (some (zA sv z))) f m = f (I (ma S 1 z)) m := xb_ok (x_gi rfl (h.cf.zt z h0 h1) (h.z1 z h0 h1))
theorem yz2 {β : Type} {sv : Nat} {m : QM} {G : GM} {S : MS} {f : Int32 → QX β} (h : CR sv G S m) {z : Int} (h0 : 0 ≤ z) (h1 : z < 3) (h2 : ma S 1 z ≠ -1) : xb (xgi 6 2 (some (zA sv z))) f m = f (I (ma S 2 z)) m := xb_ok (x_gi rfl (h.cf.zt z h0 h1) (h.z2 z h0 h1 h2))
theorem yp {β : Type} {sv : Nat} {m : QM} {f : Option Nat → QX β} (h : CF sv m) {p : Int} (h0 : 0 ≤ p) (h1 : p < 5) : xb (xar 3 (some (sv + 2)) (I p)) f m = f (some (pA sv p)) m := xb_ok (x_ar h.t2 (by decide) h0 (by omega) (h.pr p h0 h1))
theorem op {α : Type} {sv : Nat} {m : QM} {f : Nat → QX α} (h : CF sv m) {p : Int} (h0 : 0 ≤ p) (h1 : p < 5) : xo 3 (some (pA sv p)) f m = f (pA sv p) m := xo_ok (h.pt p h0 h1)
theorem op_b {α β : Type} {sv : Nat} {m : QM} {g : Nat → QX α} {f : α → QX β} (h : CF sv m) {p : Int} (h0 : 0 ≤ p) (h1 : p < 5) : xb (xo 3 (some (pA sv p)) g) f m = xb (g (pA sv p)) f m := xb_xo (h.pt p h0 h1)
theorem yp0 {β : Type} {sv : Nat} {m : QM} {G : GM} {S : MS} {f : Int32 → QX β} (h : CR sv G S m) {p : Int} (h0 : 0 ≤ p) (h1 : p < 5) : xb (xgi 3 0 (some (pA sv p))) f m = f (I (ma S 27 p)) m := xb_ok (x_gi rfl (h.cf.pt p h0 h1) (h.p0 p h0 h1))
theorem yp1 {β : Type} {sv : Nat} {m : QM} {G : GM} {S : MS} {f : Int32 → QX β} (h : CR sv G S m) {p : Int} (h0 : 0 ≤ p) (h1 : p < 5) : xb (xgi 3 1 (some (pA sv p))) f m = f (I (ma S 28 p)) m := xb_ok (x_gi rfl (h.cf.pt p h0 h1) (h.p1 p h0 h1))
theorem yp2 {β : Type} {sv : Nat} {m : QM} {f : Option Nat → QX β} (h : CF sv m) {p : Int} (h0 : 0 ≤ p) (h1 : p < 5) : xb (xgr 3 2 (some (pA sv p))) f m = f (some (pA sv p + 1)) m := xb_ok (x_gr rfl (h.pt p h0 h1) (h.pf p h0 h1))
theorem ype {β : Type} {sv : Nat} {m : QM} {G : GM} {S : MS} {f : Int32 → QX β} (h : CR sv G S m) {p : Int} (h0 : 0 ≤ p) (h1 : p < 5) {i : Int} (h2 : 0 ≤ i) (h3 : i < 8) : xb (xai 0 (some (pA sv p + 1)) (I i)) f m = f (I (ma S 26 (8 * p + i))) m := xb_ok (x_ai (h.cf.pe p h0 h1) (by decide) h2 (by omega) (h.pe p i h0 h1 h2 h3))
theorem ym {β : Type} {sv : Nat} {m : QM} {G : GM} {S : MS} {f : Option Nat → QX β} (h : CR sv G S m) {i : Int} (h0 : 0 ≤ i) (h1 : i < mf S 3) (h8 : mf S 3 ≤ 8) : xb (xar 1 (some (sv + 3)) (I i)) f m = f (some (am G i)) m := xb_ok (x_ar h.cf.t3 (by decide) h0 (by omega) (h.mt i h0 h1).pl)
theorem yg {β : Type} {sv : Nat} {m : QM} {G : GM} {S : MS} {f : Option Nat → QX β} (h : CR sv G S m) {k : Int} (h0 : 0 ≤ k) (h1 : k < mf S 29) (h8 : mf S 29 ≤ 150) : xb (xar 2 (some (sv + 4)) (I k)) f m = f (some (ag G k)) m := xb_ok (x_ar h.cf.t4 (by decide) h0 (by omega) (h.mg k h0 h1).pl)
theorem om {α : Type} {sv : Nat} {m : QM} {G : GM} {S : MS} {f : Nat → QX α} {i : Int} (h : MT sv G S m i) : xo 1 (some (am G i)) f m = f (am G i) m := xo_ok h.ty
theorem om_b {α β : Type} {sv : Nat} {m : QM} {G : GM} {S : MS} {g : Nat → QX α} {f : α → QX β} {i : Int} (h : MT sv G S m i) : xb (xo 1 (some (am G i)) g) f m = xb (g (am G i)) f m := xb_xo h.ty
theorem ym1 {β : Type} {sv : Nat} {m : QM} {G : GM} {S : MS} {f : Int32 → QX β} {i : Int} (h : MT sv G S m i) : xb (xgi 1 1 (some (am G i))) f m = f (I (ma S 4 i)) m := xb_ok (x_gi rfl h.ty h.f1)
theorem ym4 {β : Type} {sv : Nat} {m : QM} {G : GM} {S : MS} {f : Int32 → QX β} {i : Int} (h : MT sv G S m i) : xb (xgi 1 4 (some (am G i))) f m = f (I (ma S 6 i)) m := xb_ok (x_gi rfl h.ty h.f4)
theorem ym2 {β : Type} {sv : Nat} {m : QM} {G : GM} {S : MS} {f : Option Nat → QX β} {i : Int} (h : MT sv G S m i) : xb (xgr 1 2 (some (am G i))) f m = f (some (an G i)) m := xb_ok (x_gr rfl h.ty h.f2)
theorem ym3 {β : Type} {sv : Nat} {m : QM} {G : GM} {S : MS} {f : Option Nat → QX β} {i : Int} (h : MT sv G S m i) : xb (xgr 1 3 (some (am G i))) f m = f (some (am G i + 5)) m := xb_ok (x_gr rfl h.ty h.f3)
theorem ym5 {β : Type} {sv : Nat} {m : QM} {G : GM} {S : MS} {f : Option Nat → QX β} {i : Int} (h : MT sv G S m i) : xb (xgr 1 5 (some (am G i))) f m = f (some (am G i + 6)) m := xb_ok (x_gr rfl h.ty h.f5)
theorem ym6 {β : Type} {sv : Nat} {m : QM} {G : GM} {S : MS} {f : Option Nat → QX β} {i : Int} (h : MT sv G S m i) : xb (xgr 1 6 (some (am G i))) f m = f (some (am G i + 8)) m := xb_ok (x_gr rfl h.ty h.f6)
theorem ok6 {α : Type} {sv : Nat} {m : QM} {G : GM} {S : MS} {f : Nat → QX α} {i : Int} (h : MT sv G S m i) : xo 4 (some (am G i + 6)) f m = f (am G i + 6) m := xo_ok h.t6
theorem ok6_b {α β : Type} {sv : Nat} {m : QM} {G : GM} {S : MS} {g : Nat → QX α} {f : α → QX β} {i : Int} (h : MT sv G S m i) : xb (xo 4 (some (am G i + 6)) g) f m = xb (g (am G i + 6)) f m := xb_xo h.t6
theorem ok8 {α : Type} {sv : Nat} {m : QM} {G : GM} {S : MS} {f : Nat → QX α} {i : Int} (h : MT sv G S m i) : xo 4 (some (am G i + 8)) f m = f (am G i + 8) m := xo_ok h.t8
theorem ok8_b {α β : Type} {sv : Nat} {m : QM} {G : GM} {S : MS} {g : Nat → QX α} {f : α → QX β} {i : Int} (h : MT sv G S m i) : xb (xo 4 (some (am G i + 8)) g) f m = xb (g (am G i + 8)) f m := xb_xo h.t8
theorem yk6 {β : Type} {sv : Nat} {m : QM} {G : GM} {S : MS} {f : Option Nat → QX β} {i : Int} (h : MT sv G S m i) : xb (xgr 4 0 (some (am G i + 6))) f m = f (some (am G i + 7)) m := xb_ok (x_gr rfl h.t6 h.r6)
theorem yk8 {β : Type} {sv : Nat} {m : QM} {G : GM} {S : MS} {f : Option Nat → QX β} {i : Int} (h : MT sv G S m i) : xb (xgr 4 0 (some (am G i + 8))) f m = f (some (am G i + 9)) m := xb_ok (x_gr rfl h.t8 h.r8)
theorem og_b {α β : Type} {sv : Nat} {m : QM} {G : GM} {S : MS} {g : Nat → QX α} {f : α → QX β} {k : Int} (h : MG sv G S m k) : xb (xo 2 (some (ag G k)) g) f m = xb (g (ag G k)) f m := xb_xo h.ty
theorem yg0 {β : Type} {sv : Nat} {m : QM} {G : GM} {S : MS} {f : Int32 → QX β} {k : Int} (h : MG sv G S m k) : xb (xgi 2 0 (some (ag G k))) f m = f (I (ma S 31 k)) m := xb_ok (x_gi rfl h.ty h.f0)
theorem yg2 {β : Type} {sv : Nat} {m : QM} {G : GM} {S : MS} {f : Int32 → QX β} {k : Int} (h : MG sv G S m k) : xb (xgi 2 2 (some (ag G k))) f m = f (I (ma S 32 k)) m := xb_ok (x_gi rfl h.ty h.f2)
theorem yg3 {β : Type} {sv : Nat} {m : QM} {G : GM} {S : MS} {f : Int32 → QX β} {k : Int} (h : MG sv G S m k) : xb (xgi 2 3 (some (ag G k))) f m = f (I (ma S 33 k)) m := xb_ok (x_gi rfl h.ty h.f3)
theorem yg5 {β : Type} {sv : Nat} {m : QM} {G : GM} {S : MS} {f : Int32 → QX β} {k : Int} (h : MG sv G S m k) : xb (xgi 2 5 (some (ag G k))) f m = f (I (ma S 37 k)) m := xb_ok (x_gi rfl h.ty h.f5)
theorem yg6 {β : Type} {sv : Nat} {m : QM} {G : GM} {S : MS} {f : Int32 → QX β} {k : Int} (h : MG sv G S m k) (hq : ma S 31 k = 2) : xb (xgi 2 6 (some (ag G k))) f m = f (I (ma S 41 k)) m := xb_ok (x_gi rfl h.ty (h.f6 hq))
theorem yg9 {β : Type} {sv : Nat} {m : QM} {G : GM} {S : MS} {f : Int32 → QX β} {k : Int} (h : MG sv G S m k) (hq : ma S 31 k = 1) : xb (xgi 2 9 (some (ag G k))) f m = f (I (ma S 39 k)) m := xb_ok (x_gi rfl h.ty (h.f9 hq))
theorem yg10 {β : Type} {sv : Nat} {m : QM} {G : GM} {S : MS} {f : Int32 → QX β} {k : Int} (h : MG sv G S m k) (hq : ma S 31 k ≠ 0) : xb (xgi 2 10 (some (ag G k))) f m = f (I (ma S 42 k)) m := xb_ok (x_gi rfl h.ty (h.f10 hq))
theorem yg11 {β : Type} {sv : Nat} {m : QM} {G : GM} {S : MS} {f : Int32 → QX β} {k : Int} (h : MG sv G S m k) (hq : ma S 31 k = 2) : xb (xgi 2 11 (some (ag G k))) f m = f (I (ma S 43 k)) m := xb_ok (x_gi rfl h.ty (h.f11 hq))
theorem yg1 {β : Type} {sv : Nat} {m : QM} {G : GM} {S : MS} {f : Option Nat → QX β} {k : Int} (h : MG sv G S m k) : xb (xgr 2 1 (some (ag G k))) f m = f (some (am G (ma S 34 k))) m := xb_ok (x_gr rfl h.ty h.f1)
theorem yg4 {β : Type} {sv : Nat} {m : QM} {G : GM} {S : MS} {f : Option Nat → QX β} {k : Int} (h : MG sv G S m k) : xb (xgr 2 4 (some (ag G k))) f m = f (some (av G k)) m := xb_ok (x_gr rfl h.ty h.f4)
theorem ygv {β : Type} {sv : Nat} {m : QM} {G : GM} {S : MS} {f : Int32 → QX β} {k : Int} (h : MG sv G S m k) : xb (xgi 5 0 (some (av G k))) f m = f (I (ma S 36 k)) m := xb_ok (x_gi rfl h.vty h.v0)
theorem ov {α : Type} {sv : Nat} {m : QM} {f : Nat → QX α} {a : Nat} {ri : Nat → Int} {rl : Nat → Int64} {rd : Int → Int} (h : VR sv m a ri rl rd) : xo 5 (some a) f m = f a m := xo_ok h.ty
theorem ov_b {α β : Type} {sv : Nat} {m : QM} {g : Nat → QX α} {f : α → QX β} {a : Nat} {ri : Nat → Int} {rl : Nat → Int64} {rd : Int → Int} (h : VR sv m a ri rl rd) : xb (xo 5 (some a) g) f m = xb (g a) f m := xb_xo h.ty
theorem yv0 {β : Type} {sv : Nat} {m : QM} {f : Int32 → QX β} {a : Nat} {ri : Nat → Int} {rl : Nat → Int64} {rd : Int → Int} (h : VR sv m a ri rl rd) : xb (xgi 5 0 (some a)) f m = f (I (ri 9)) m := xb_ok (x_gi rfl h.ty h.f0)
theorem yv3 {β : Type} {sv : Nat} {m : QM} {f : Int32 → QX β} {a : Nat} {ri : Nat → Int} {rl : Nat → Int64} {rd : Int → Int} (h : VR sv m a ri rl rd) : xb (xgi 5 3 (some a)) f m = f (I (ri 12)) m := xb_ok (x_gi rfl h.ty h.f3)
theorem yv4 {β : Type} {sv : Nat} {m : QM} {f : Int32 → QX β} {a : Nat} {ri : Nat → Int} {rl : Nat → Int64} {rd : Int → Int} (h : VR sv m a ri rl rd) : xb (xgi 5 4 (some a)) f m = f (I (ri 13)) m := xb_ok (x_gi rfl h.ty h.f4)
theorem yv14 {β : Type} {sv : Nat} {m : QM} {f : Int32 → QX β} {a : Nat} {ri : Nat → Int} {rl : Nat → Int64} {rd : Int → Int} (h : VR sv m a ri rl rd) : xb (xgi 5 14 (some a)) f m = f (I (ri 17)) m := xb_ok (x_gi rfl h.ty h.f14)
theorem yv15 {β : Type} {sv : Nat} {m : QM} {f : Int32 → QX β} {a : Nat} {ri : Nat → Int} {rl : Nat → Int64} {rd : Int → Int} (h : VR sv m a ri rl rd) : xb (xgi 5 15 (some a)) f m = f (I (ri 18)) m := xb_ok (x_gi rfl h.ty h.f15)
theorem yv16 {β : Type} {sv : Nat} {m : QM} {f : Int32 → QX β} {a : Nat} {ri : Nat → Int} {rl : Nat → Int64} {rd : Int → Int} (h : VR sv m a ri rl rd) : xb (xgi 5 16 (some a)) f m = f (I (ri 19)) m := xb_ok (x_gi rfl h.ty h.f16)
theorem yv8 {β : Type} {sv : Nat} {m : QM} {f : Int64 → QX β} {a : Nat} {ri : Nat → Int} {rl : Nat → Int64} {rd : Int → Int} (h : VR sv m a ri rl rd) : xb (xgl 5 8 (some a)) f m = f (rl 20) m := xb_ok (x_gl rfl h.ty h.f8)
theorem yv9 {β : Type} {sv : Nat} {m : QM} {f : Int64 → QX β} {a : Nat} {ri : Nat → Int} {rl : Nat → Int64} {rd : Int → Int} (h : VR sv m a ri rl rd) : xb (xgl 5 9 (some a)) f m = f (rl 21) m := xb_ok (x_gl rfl h.ty h.f9)
theorem yv10 {β : Type} {sv : Nat} {m : QM} {f : Int64 → QX β} {a : Nat} {ri : Nat → Int} {rl : Nat → Int64} {rd : Int → Int} (h : VR sv m a ri rl rd) : xb (xgl 5 10 (some a)) f m = f (rl 23) m := xb_ok (x_gl rfl h.ty h.f10)
theorem yv1 {β : Type} {sv : Nat} {m : QM} {f : Option Nat → QX β} {a : Nat} {ri : Nat → Int} {rl : Nat → Int64} {rd : Int → Int} (h : VR sv m a ri rl rd) : xb (xgr 5 1 (some a)) f m = f (some (zA sv (ri 10))) m := xb_ok (x_gr rfl h.ty h.f1)
