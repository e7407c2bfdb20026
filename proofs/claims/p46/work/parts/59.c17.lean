theorem bestTo_cg {S S' : MS} {c c' : Int → Bool} (h36 : ma S' 36 = ma S 36) (h39 : ma S' 39 = ma S 39) (hc : ∀ k, c' k = c k) : ∀ j, bestTo S' c' j = bestTo S c j := by
  intro j
  induction j with
  | zero => rfl
  | succ j ih =>
    show (if (c' j && later S' j (bestTo S' c' j)) = true then (j : Int) else bestTo S' c' j) = (if (c j && later S j (bestTo S c j)) = true then (j : Int) else bestTo S c j)
    rw [ih, hc]
    unfold later
    rw [h36, h39]
def EM (S' S : MS) : Prop := (∀ J, 31 ≤ J → J ≤ 43 → ma S' J = ma S J) ∧ mf S' 29 = mf S 29
theorem kept_cg {S S' : MS} (h : EM S' S) (i p d : Int) : kept S' i p d = kept S i p d := by
  unfold kept
  rw [h.2]
  exact bestTo_cg (h.1 36 (by decide) (by decide)) (h.1 39 (by decide) (by decide)) (fun k => by unfold cK; rw [h.1 31 (by decide) (by decide), h.1 42 (by decide) (by decide), h.1 34 (by decide) (by decide), h.1 32 (by decide) (by decide), h.1 37 (by decide) (by decide)]) _
theorem ownb_cg {S S' : MS} (h : EM S' S) (i p d : Int) : ownb S' i p d = ownb S i p d := by
  unfold ownb
  rw [h.2]
  exact bestTo_cg (h.1 36 (by decide) (by decide)) (h.1 39 (by decide) (by decide)) (fun k => by unfold cO; rw [h.1 31 (by decide) (by decide), h.1 34 (by decide) (by decide), h.1 32 (by decide) (by decide), h.1 37 (by decide) (by decide)]) _
def EP (S' S : MS) : Prop := (∀ J, J ≠ 26 → J ≠ 27 → J ≠ 28 → ma S' J = ma S J) ∧ ml S' = ml S ∧ ∀ J, J ≠ 45 → mf S' J = mf S J
theorem EP.refl (S : MS) : EP S S := ⟨fun _ _ _ _ => rfl, rfl, fun _ _ => rfl⟩
theorem EP.trans {S S' S2 : MS} (h : EP S' S) (g : EP S2 S') : EP S2 S := ⟨fun J a b c => (g.1 J a b c).trans (h.1 J a b c), g.2.1.trans h.2.1, fun J a => (g.2.2 J a).trans (h.2.2 J a)⟩
theorem EP.seta {S : MS} {K : Nat} {z v : Int} (h : K = 26 ∨ K = 27 ∨ K = 28) : EP (seta S K z v) S := ⟨fun J a b c => funext fun y => if_neg (fun q => by omega), rfl, fun _ _ => rfl⟩
theorem EP.em {S S' : MS} (h : EP S' S) : EM S' S := ⟨fun J a b => h.1 J (by omega) (by omega) (by omega), h.2.2 29 (by decide)⟩
theorem EP.sv {S S' : MS} (h : EP S' S) (v : Int) : SV S' S v := ⟨fun J a b => by rw [h.1 J (by omega) (by omega) (by omega)], fun J _ _ => by rw [h.2.1], fun d _ _ => by rw [h.1 24 (by decide) (by decide) (by decide)]⟩
theorem EP.marked1 (S : MS) (p i : Int) : EP (marked1 S p i) S := (EP.seta (Or.inr (Or.inl rfl))).trans (EP.seta (Or.inl rfl))
theorem EP.marks (S : MS) (p i : Int) : EP (sMarks S p i) S := by
  unfold sMarks
  split
  · exact ((EP.marked1 S p i).trans (EP.seta (Or.inr (Or.inr rfl)))).trans (EP.seta (Or.inl rfl))
  · exact EP.marked1 S p i
def PC (sv : Nat) (m m' : QM) : Prop := qtop m' = qtop m ∧ qty m' = qty m ∧ qfl m' = qfl m ∧ qfr m' = qfr m ∧ qal m' = qal m ∧ qar m' = qar m ∧ (∀ f b, (f < 192 ∨ 194 ≤ f) ∨ sv + 20 ≤ b → qfi m' f b = qfi m f b) ∧ ∀ b, (b < sv + 11 ∨ sv + 20 ≤ b) → qai m' b = qai m b
section C17
variable {sv : Nat} {G : GM} {S S' : MS} {m m' m2 : QM} {t : Int}
theorem PC.refl (sv : Nat) (m : QM) : PC sv m m := ⟨rfl, rfl, rfl, rfl, rfl, rfl, fun _ _ _ => rfl, fun _ _ => rfl⟩
theorem PC.trans (h : PC sv m m') (g : PC sv m' m2) : PC sv m m2 := by
  obtain ⟨h1, h2, h3, h4, h5, h6, h7, h8⟩ := h
  obtain ⟨g1, g2, g3, g4, g5, g6, g7, g8⟩ := g
  exact ⟨g1.trans h1, g2.trans h2, g3.trans h3, g4.trans h4, g5.trans h5, g6.trans h6, fun f b q => (g7 f b q).trans (h7 f b q), fun b q => (g8 b q).trans (h8 b q)⟩
theorem PC.sfi {p : Int} {x : Int32} {f : Nat} (hf : f = 192 ∨ f = 193) (h0 : 0 ≤ p) (h1 : p < 5) : PC sv m (sfi m f (pA sv p) x) :=
  ⟨rfl, rfl, rfl, rfl, rfl, rfl, fun g b q => up_up (fun z => by unfold pA at z; omega), fun _ _ => rfl⟩
theorem PC.sai {p : Int} {n : Nat} {x : Int32} (h0 : 0 ≤ p) (h1 : p < 5) : PC sv m (sai m (pA sv p + 1) n x) :=
  ⟨rfl, rfl, rfl, rfl, rfl, rfl, fun _ _ _ => rfl, fun b q => va_up_diff _ _ (by unfold pA; omega)⟩
theorem PC.imm (h : PC sv m m') : IMM sv m m' := by
  obtain ⟨h1, h2, h3, h4, h5, h6, h7, h8⟩ := h
  exact ⟨by omega, fun b _ _ => by rw [h2], fun f b x _ _ => h7 f b (by omega), fun f b _ _ _ => by rw [h3], fun f b _ _ _ => by rw [h4], fun b x _ => h8 b (by omega)⟩
theorem PC.kp (h : PC sv m m') : KP sv m m' := by
  obtain ⟨h1, h2, h3, h4, h5, h6, h7, h8⟩ := h
  exact ⟨by omega, fun b x y => ⟨by rw [h2], fun f => h7 f b (by omega), fun f => by rw [h4], h8 b (by omega), by rw [h5]⟩⟩
theorem CF.pc (h : CF sv m) (c : PC sv m m') : CF sv m' := by
  obtain ⟨h1, h2, h3, h4, h5, h6, h7, h8⟩ := c
  unfold CF at h ⊢
  rw [h1, h2, h4, h6]; exact h
theorem CR.pc (h : CR sv G S m) (c : PC sv m m') (e : EP S' S) (p0 : ∀ p : Int, 0 ≤ p → p < 5 → qfi m' 192 (pA sv p) = I (ma S' 27 p)) (p1 : ∀ p : Int, 0 ≤ p → p < 5 → qfi m' 193 (pA sv p) = I (ma S' 28 p)) (pe : ∀ p i : Int, 0 ≤ p → p < 5 → 0 ≤ i → i < 8 → qai m' (pA sv p + 1) i.toNat = I (ma S' 26 (8 * p + i))) : CR sv G S' m' := by
  have im := c.imm
  have hcf := h.cf.pc c
  obtain ⟨h1, h2, h3, h4, h5, h6, h7, h8⟩ := c
  have n3 : mf S' 3 = mf S 3 := e.2.2 3 (by decide)
  have n29 : mf S' 29 = mf S 29 := e.2.2 29 (by decide)
  have e' : ∀ J, J < 26 ∨ 28 < J → ma S' J = ma S J := fun J z => e.1 J (by omega) (by omega) (by omega)
  refine ⟨hcf, by rw [n3]; exact (h7 _ _ (by omega)).trans h.f4, by rw [n29]; exact (h7 _ _ (by omega)).trans h.f5, by rw [e.2.2 30 (by decide)]; exact (h7 _ _ (by omega)).trans h.f6, fun z x y => by rw [e' 0 (by omega)]; exact (h7 _ _ (by omega)).trans (h.z0 z x y), fun z x y => by rw [e' 1 (by omega)]; exact (h7 _ _ (by omega)).trans (h.z1 z x y), fun z x y w => by
      rw [e' 1 (by omega)] at w
      rw [e' 2 (by omega)]; exact (h7 _ _ (by omega)).trans (h.z2 z x y w), p0, p1, pe, fun i x y => ?_, fun i j x y z => h.mi i j x y (by rw [n3] at z; exact z), fun k x y => ?_, fun k l x y z => h.gi k l x y (by rw [n29] at z; exact z)⟩
  · rw [n3] at y
    exact (h.mt i x y).fr im (fun b u _ => ⟨by rw [h2], fun f _ => ⟨h7 f b (by have := (h.mt i x y).lo; omega), by rw [h4]⟩, by rw [h6]⟩) (by rw [h6]) rfl rfl (fun _ _ _ => rfl) (by rw [e' 4 (by omega)]) (by rw [e' 5 (by omega)]) (by rw [e' 6 (by omega)]) (fun _ _ _ => by rw [e' 25 (by omega)]) (e.sv _) (fun _ _ _ _ => e.sv _) (fun p d _ _ _ _ => by rw [kept_cg e.em]) (fun p d _ _ _ _ => by rw [ownb_cg e.em])
  · rw [n29] at y
    exact (h.mg k x y).fr im (by rw [h2]) (fun f _ => ⟨h7 f _ (by have := (h.mg k x y).lo; omega), by rw [h4]⟩) (by rw [h6]) rfl rfl rfl (fun J u v => by rw [e' J (by omega)]) (fun _ => e.sv _)
theorem LO_ep (e : EP S' S) (h : LO S) : LO S' := fun i a b => by
  rw [e.1 18 (by decide) (by decide) (by decide), e.1 5 (by decide) (by decide) (by decide), e.1 4 (by decide) (by decide) (by decide)]
  exact h i a (by rw [e.2.2 3 (by decide)] at b; exact b)
theorem pA_inj {p q : Int} (hp : 0 ≤ p) (hq : 0 ≤ q) (e : pA sv p = pA sv q) : p = q := by unfold pA at e; omega
theorem c_mark1 {p i : Int} (h : CR sv G S m) (hp : 0 ≤ p) (hp' : p < 5) (hi : 0 ≤ i) (hi' : i < 8) : CR sv G (marked1 S p i) (sai (sfi m 192 (pA sv p) (I (ma S 27 p + 1))) (pA sv p + 1) i.toNat (I (ma S 27 p + 1))) := by
  refine h.pc ((PC.sfi (Or.inl rfl) hp hp').trans (PC.sai hp hp')) (EP.marked1 S p i) (fun q q0 q1 => ?_) (fun q q0 q1 => ?_) (fun q j q0 q1 j0 j1 => ?_)
  · show qfi (sfi m 192 (pA sv p) (I (ma S 27 p + 1))) 192 (pA sv q) = I (if 27 = 26 ∧ q = 8 * p + i then ma S 27 p + 1 else (if 27 = 27 ∧ q = p then ma S 27 p + 1 else ma S 27 q))
    rw [if_neg (fun z => absurd z.1 (by decide))]
    by_cases c : q = p
    · subst c; rw [fi_s, if_pos ⟨rfl, rfl⟩]
    · rw [fi_a (fun z => c (pA_inj q0 hp z)), if_neg (fun z => c z.2)]; exact h.p0 q q0 q1
  · show qfi (sfi m 192 (pA sv p) (I (ma S 27 p + 1))) 193 (pA sv q) = I (if 28 = 26 ∧ q = 8 * p + i then ma S 27 p + 1 else (if 28 = 27 ∧ q = p then ma S 27 p + 1 else ma S 28 q))
    rw [if_neg (fun z => absurd z.1 (by decide)), if_neg (fun z => absurd z.1 (by decide)), fi_n (by decide)]; exact h.p1 q q0 q1
  · show va_up (qai m) (pA sv p + 1) (va_up (qai m (pA sv p + 1)) i.toNat (I (ma S 27 p + 1))) (pA sv q + 1) j.toNat = I (if 26 = 26 ∧ 8 * q + j = 8 * p + i then ma S 27 p + 1 else (if 26 = 27 ∧ 8 * q + j = p then ma S 27 p + 1 else ma S 26 (8 * q + j)))
    rw [if_neg (c := 26 = 27 ∧ 8 * q + j = p) (fun z => absurd z.1 (by decide))]
    by_cases c : q = p
    · subst c
      rw [va_up_same]
      by_cases d : j = i
      · subst d; rw [va_up_same, if_pos ⟨rfl, rfl⟩]
      · rw [va_up_diff _ _ (by omega), if_neg (by omega)]; exact h.pe q j q0 q1 j0 j1
    · rw [va_up_diff _ _ (fun z => c (pA_inj (sv := sv) q0 hp (by omega))), if_neg (by omega)]; exact h.pe q j q0 q1 j0 j1
theorem c_forget {p o : Int} (h : CR sv G S m) (hw : WR t S) (hp : 0 ≤ p) (hp' : p < 5) (ho : 0 ≤ o) (ho' : o < 8) : ∃ m', F_X2_forget (pA sv p) (I o) m = some (.ok (), m') ∧ CR sv G (seta (seta S 28 p (ma S 26 (8 * p + o))) 26 (8 * p + o) 0) m' ∧ PC sv m m' := by
  have hc : PC sv m (sai (sfi m 193 (pA sv p) (I (ma S 26 (8 * p + o)))) (pA sv p + 1) o.toNat (I 0)) := (PC.sfi (Or.inr rfl) hp hp').trans (PC.sai hp hp')
  refine ⟨sai (sfi m 193 (pA sv p) (I (ma S 26 (8 * p + o)))) (pA sv p + 1) o.toNat (I 0), ?_, h.pc hc ((EP.seta (Or.inr (Or.inr rfl))).trans (EP.seta (Or.inl rfl))) (fun q q0 q1 => ?_) (fun q q0 q1 => ?_) (fun q j q0 q1 j0 j1 => ?_), hc⟩
  · unfold F_X2_forget
    simp only [xb_xp, xb_as]
    have ht1 : qty (sfi m 193 (pA sv p) (I (ma S 26 (8 * p + o)))) (pA sv p) = (1, 3, 0) := h.cf.pt p hp hp'
    have ht2 : qty (sfi m 193 (pA sv p) (I (ma S 26 (8 * p + o)))) (pA sv p + 1) = (2, 0, 8) := h.cf.pe p hp hp'
    have hf : qfr (sfi m 193 (pA sv p) (I (ma S 26 (8 * p + o)))) 194 (pA sv p) = some (pA sv p + 1) := h.cf.pf p hp hp'
    rw [gl0, gl8, d_le (by omega) (by omega) (by omega) (by omega), d_lt (by omega) (by omega) (by omega) (by omega), decide_eq_true ho, decide_eq_true ho', if_pos rfl, xb_xp, if_pos rfl]
    simp only [xb_as]
    rw [yp2 h.cf hp hp', ype h hp hp' ho ho', xb_ok (x_si (f := 193) rfl (h.cf.pt p hp hp')), xb_ok (x_gr rfl ht1 hf), xb_ok (x_sai ht2 (by decide) ho (by omega))]; rfl
  · show qfi (sfi m 193 (pA sv p) (I (ma S 26 (8 * p + o)))) 192 (pA sv q) = I (if 27 = 26 ∧ q = 8 * p + o then 0 else (if 27 = 28 ∧ q = p then ma S 26 (8 * p + o) else ma S 27 q))
    rw [if_neg (fun z => absurd z.1 (by decide)), if_neg (fun z => absurd z.1 (by decide)), fi_n (by decide)]; exact h.p0 q q0 q1
  · show qfi (sfi m 193 (pA sv p) (I (ma S 26 (8 * p + o)))) 193 (pA sv q) = I (if 28 = 26 ∧ q = 8 * p + o then 0 else (if 28 = 28 ∧ q = p then ma S 26 (8 * p + o) else ma S 28 q))
    rw [if_neg (fun z => absurd z.1 (by decide))]
    by_cases c : q = p
    · subst c; rw [fi_s, if_pos ⟨rfl, rfl⟩]
    · rw [fi_a (fun z => c (pA_inj q0 hp z)), if_neg (fun z => c z.2)]; exact h.p1 q q0 q1
  · show va_up (qai m) (pA sv p + 1) (va_up (qai m (pA sv p + 1)) o.toNat (I 0)) (pA sv q + 1) j.toNat = I (if 26 = 26 ∧ 8 * q + j = 8 * p + o then 0 else (if 26 = 28 ∧ 8 * q + j = p then ma S 26 (8 * p + o) else ma S 26 (8 * q + j)))
    rw [if_neg (c := 26 = 28 ∧ 8 * q + j = p) (fun z => absurd z.1 (by decide))]
    by_cases c : q = p
    · subst c
      rw [va_up_same]
      by_cases d : j = o
      · subst d; rw [va_up_same, if_pos ⟨rfl, rfl⟩]
      · rw [va_up_diff _ _ (by omega), if_neg (by omega)]; exact h.pe q j q0 q1 j0 j1
    · rw [va_up_diff _ _ (fun z => c (pA_inj (sv := sv) q0 hp (by omega))), if_neg (by omega)]; exact h.pe q j q0 q1 j0 j1
theorem c_markEntry {p i : Int} (h : CR sv G S m) (hw : WR t S) (ht : t + 1 ≤ 600) (hl : LO S) (hp : 0 ≤ p) (hp' : p < 5) (hi : 0 ≤ i) (hi' : i < mf S 3) : ∃ m', F_X6_markEntry sv (I p) (some (am G i)) m = some (.ok (), m') ∧ CR sv G (sMarks S p i) m' ∧ PC sv m m' := by
  have hn := hw.nn
  have hps := hw.ps hp hp'
  have hC := c_mark1 h hp hp' hi (show i < 8 by omega)
  have hW := wr_mark1 hw ht hp hp' hi hi'
  have hL := LO_ep (EP.marked1 S p i) hl
  have hPC : PC sv m (sai (sfi m 192 (pA sv p) (I (ma S 27 p + 1))) (pA sv p + 1) i.toNat (I (ma S 27 p + 1))) := (PC.sfi (Or.inl rfl) hp hp').trans (PC.sai hp hp')
  have n3 : mf (marked1 S p i) 3 = mf S 3 := rfl
  have ht1 : qty (sfi m 192 (pA sv p) (I (ma S 27 p + 1))) (pA sv p) = (1, 3, 0) := h.cf.pt p hp hp'
  have ht2 : qty (sfi m 192 (pA sv p) (I (ma S 27 p + 1))) (pA sv p + 1) = (2, 0, 8) := h.cf.pe p hp hp'
  have hf : qfr (sfi m 192 (pA sv p) (I (ma S 27 p + 1))) 194 (pA sv p) = some (pA sv p + 1) := h.cf.pf p hp hp'
  have hi0 : qfi (sfi m 192 (pA sv p) (I (ma S 27 p + 1))) 192 (pA sv p) = I (ma S 27 p + 1) := fi_s
  have htm : qty (sfi m 192 (pA sv p) (I (ma S 27 p + 1))) (am G i) = (1, 1, 0) := (h.mt i hi hi').ty
  have hfm : qfi (sfi m 192 (pA sv p) (I (ma S 27 p + 1))) 64 (am G i) = I i := (fi_n (by decide)).trans (h.mt i hi hi').f0
  unfold F_X6_markEntry
  simp only [xb_xp, xb_as]
  rw [ys1 h.cf, yp h.cf hp hp', yp0 h hp hp', gl1, I_add, xb_ok (x_si (f := 192) rfl (h.cf.pt p hp hp')), xb_ok (x_gr rfl ht1 hf), xb_ok (x_gi rfl htm hfm), xb_ok (x_gi rfl ht1 hi0), xb_ok (x_sai ht2 (by decide) hi (by omega))]
  generalize hM : sai (sfi m 192 (pA sv p) (I (ma S 27 p + 1))) (pA sv p + 1) i.toNat (I (ma S 27 p + 1)) = M at hC hPC ⊢
  clear ht1 ht2 hf hi0 htm hfm hM
  generalize hSM : marked1 S p i = SM at hC hW hL n3
  have gr := goneTo_r SM p
  have hrun := xl_run (c := fun (s18 : Int32 × Int32 × Int32) => xb (xgi 7 4 (some sv)) fun v21 => xp (decide (s18.2.2 < v21))) (b := fun (s18 : Int32 × Int32 × Int32) => xb (xgr 3 2 (some (pA sv p))) fun v => xb (xai 0 v s18.2.2) fun entry_25 => xb (if decide (0 < entry_25) = true then xb (xgr 7 2 (some sv)) fun v => xb (xar 1 v s18.2.2) fun v => xb (xo 1 v fun q => F_X0_versionThere q (I p)) fun v32 => xp (decide (v32 = none)) else xp false) fun v => xb (if v = true then xb (if decide (s18.2.1 = -1) = true then xp true else xb (xgr 3 2 (some (pA sv p))) fun v => xb (xai 0 v s18.2.1) fun v40 => xp (decide (entry_25 < v40))) fun v => xb (if v = true then xp s18.2.2 else xp s18.2.1) fun oldest_43 => xp (s18.1 + I 1, oldest_43) else xp (s18.1, s18.2.1)) fun s45 => xp (s45.1, s45.2, s18.2.2 + I 1)) (fun j => (I (goneTo SM p j).1, I (goneTo SM p j).2, I j)) (fun _ => M) (mf SM 3).toNat 2000 (fun j hj => by
    rw [ys4 hC, xp_ap, d_lt (by omega) (by omega) (by omega) (by omega), decide_eq_true (by omega)]) (fun j hj => by
    have hc := hW.cp hp hp' (i := (j : Int)) (by omega) (by omega)
    have hps2 := hW.ps hp hp'
    have grj := gr j
    have es : goneTo SM p (j + 1) = if 0 < ma SM 26 (8 * p + j) ∧ isHere SM p j = false then ((goneTo SM p j).1 + 1, if (goneTo SM p j).2 = -1 ∨ ma SM 26 (8 * p + j) < ma SM 26 (8 * p + (goneTo SM p j).2) then (j : Int) else (goneTo SM p j).2) else goneTo SM p j := rfl
    rw [es]
    generalize goneTo SM p j = g at grj ⊢
    obtain ⟨g1, g2⟩ := g
    dsimp only at grj ⊢
    rw [yp2 hC.cf hp hp', ype hC hp hp' (by omega) (by omega), gl0, d_lt (by omega) (by omega) (by omega) (by omega)]
    rw [xb_ok (xif_and (b := decide (isHere SM p j = false)) (fun _ => by
      rw [ys2 hC.cf, ym hC (by omega) (by omega) (by omega), om_b (hC.mt j (by omega) (by omega)), xb_ok (c_versionThere hC hW hL hp hp' (by omega) (by omega)), xp_ap]
      cases isHere SM p j <;> rfl))]
    by_cases c : 0 < ma SM 26 (8 * p + j) ∧ isHere SM p j = false
    · rw [if_pos c, decide_eq_true c.1, decide_eq_true c.2, if_pos (by decide), xb_as, glm1, d_eq (by omega) (by omega) (by omega) (by omega)]
      have hx : (if decide (g2 = -1) = true then xp true else xb (xgr 3 2 (some (pA sv p))) fun v => xb (xai 0 v (I g2)) fun v40 => xp (decide (I (ma SM 26 (8 * p + j)) < v40))) M = some (.ok (decide (g2 = -1) || decide (ma SM 26 (8 * p + j) < ma SM 26 (8 * p + g2))), M) := xif_or (fun z => by
        have z := of_decide_eq_false z
        have hc2 := hW.cp hp hp' (i := g2) (by omega) (by omega)
        rw [yp2 hC.cf hp hp', ype hC hp hp' (by omega) (by omega), xp_ap, d_lt (by omega) (by omega) (by omega) (by omega)])
      rw [xb_ok hx, ← Bool.decide_or]
      by_cases d : g2 = -1 ∨ ma SM 26 (8 * p + j) < ma SM 26 (8 * p + g2)
      · rw [if_pos d, decide_eq_true d, if_pos rfl, xb_as, xb_xp, xb_xp, xp_ap, I_add, I_add]; rfl
      · rw [if_neg d, decide_eq_false d, if_neg (by decide), xb_as, xb_xp, xb_xp, xp_ap, I_add, I_add]; rfl
    · rw [if_neg c, if_neg (by
        rw [Bool.and_eq_true, decide_eq_true_eq, decide_eq_true_eq]; exact c), xb_xp, xp_ap, I_add]; rfl) (by
    rw [ys4 hC, xp_ap, d_lt (by omega) (by omega) (by omega) (by omega), decide_eq_false (by omega)]) (by omega)
  have eS : sMarks S p i = if 3 < (goneTo SM p (mf SM 3).toNat).1 then seta (seta SM 28 p (ma SM 26 (8 * p + (goneTo SM p (mf SM 3).toNat).2))) 26 (8 * p + (goneTo SM p (mf SM 3).toNat).2) 0 else SM := by
    unfold sMarks; rw [hSM, n3]
  have grn := gr (mf SM 3).toNat
  rw [eS]
  by_cases c : 3 < (goneTo SM p (mf SM 3).toNat).1
  · obtain ⟨m', e1, e2, e3⟩ := c_forget (o := (goneTo SM p (mf SM 3).toNat).2) hC hW hp hp' (by omega) (by omega)
    refine ⟨m', ?_, ?_, hPC.trans e3⟩
    · refine Eq.trans (xb_ok hrun) ?_
      show xb (if decide ((3 : Int32) < I (goneTo SM p (mf SM 3).toNat).1) = true then xb (xo 3 (some (pA sv p)) fun q => F_X2_forget q (I (goneTo SM p (mf SM 3).toNat).2)) fun x => xp () else xp ()) (fun x => xp ()) M = _
      rw [show (3 : Int32) = I 3 by decide, d_lt (by omega) (by omega) (by omega) (by omega), decide_eq_true c, if_pos rfl, xb_as, op_b hC.cf hp hp', xb_ok e1]; rfl
    · rw [if_pos c]; exact e2
  · refine ⟨M, ?_, ?_, hPC⟩
    · refine Eq.trans (xb_ok hrun) ?_
      show xb (if decide ((3 : Int32) < I (goneTo SM p (mf SM 3).toNat).1) = true then xb (xo 3 (some (pA sv p)) fun q => F_X2_forget q (I (goneTo SM p (mf SM 3).toNat).2)) fun x => xp () else xp ()) (fun x => xp ()) M = _
      rw [show (3 : Int32) = I 3 by decide, d_lt (by omega) (by omega) (by omega) (by omega), decide_eq_false c, if_neg (by decide)]; rfl
    · rw [if_neg c]; exact hC
end C17
