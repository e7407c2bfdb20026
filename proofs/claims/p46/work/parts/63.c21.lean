def EZ (S' S : MS) : Prop := (∀ J, 2 < J → ma S' J = ma S J) ∧ ml S' = ml S ∧ mf S' = mf S
section C21
variable {sv : Nat} {G : GM} {S S' : MS} {m m' M : QM} {t : Int}
theorem WR.ez (h : WR t S) (e : EZ S' S) (hz : ∀ z, 0 ≤ z → z < 3 → (-12 ≤ ma S' 0 z ∧ ma S' 0 z ≤ 12) ∧ (ma S' 1 z = -1 ∨ (0 ≤ ma S' 1 z ∧ ma S' 1 z < 60 ∧ ma S' 1 z < ma S' 2 z ∧ ma S' 2 z ≤ 60))) : WR t S' := by
  obtain ⟨a1, a2, a3, a4, a5, a6, a7, a8⟩ := h
  obtain ⟨e1, e2, e3⟩ := e
  refine ⟨by rw [e3]; exact a1, hz, ?_, ?_, ?_, ?_, ?_, ?_⟩
  · simp only [e1 4 (by decide), e1 5 (by decide), e1 6 (by decide), e3]; exact a3
  · simp only [e1 8 (by decide), e1 9 (by decide), e1 10 (by decide), e1 11 (by decide), e1 12 (by decide), e1 13 (by decide), e1 14 (by decide), e1 15 (by decide), e1 16 (by decide), e1 17 (by decide), e1 18 (by decide), e1 19 (by decide), e3]; exact a4
  · simp only [e1 24 (by decide), e3]; exact a5
  · simp only [e1 25 (by decide), e1 26 (by decide), e1 27 (by decide), e3]; exact a6
  · simp only [e1 27 (by decide), e1 28 (by decide)]; exact a7
  · simp only [e1 31 (by decide), e1 32 (by decide), e1 33 (by decide), e1 34 (by decide), e1 35 (by decide), e1 36 (by decide), e1 37 (by decide), e1 38 (by decide), e1 39 (by decide), e1 40 (by decide), e1 41 (by decide), e1 42 (by decide), e1 43 (by decide), e3]; exact a8
theorem FRV.ez (h : FRV S) (e : EZ S' S) : FRV S' := by
  obtain ⟨e1, e2, e3⟩ := e
  obtain ⟨a1, a2, a3⟩ := h
  refine ⟨?_, ?_, ?_⟩
  · simp only [e1 8 (by decide), e1 9 (by decide), e1 17 (by decide), e1 18 (by decide), e1 19 (by decide), e1 24 (by decide), e2, e3]; exact a1
  · simp only [e1 5 (by decide), e1 6 (by decide), e1 25 (by decide), e1 26 (by decide), e3]; exact a2
  · simp only [e1 36 (by decide), e1 38 (by decide), e1 39 (by decide), e1 40 (by decide), e1 41 (by decide), e1 42 (by decide), e1 43 (by decide), e3]; exact a3
theorem CR.ez (h : CR sv G S m) (e : EZ S' S) (c : (∀ f b, f < 384 ∨ 387 ≤ f → qfi m' f b = qfi m f b) ∧ qtop m' = qtop m ∧ qty m' = qty m ∧ qfl m' = qfl m ∧ qfr m' = qfr m ∧ qai m' = qai m ∧ qar m' = qar m)
    (z0 : ∀ z : Int, 0 ≤ z → z < 3 → qfi m' 384 (zA sv z) = I (ma S' 0 z)) (z1 : ∀ z : Int, 0 ≤ z → z < 3 → qfi m' 385 (zA sv z) = I (ma S' 1 z)) (z2 : ∀ z : Int, 0 ≤ z → z < 3 → ma S' 1 z ≠ -1 → qfi m' 386 (zA sv z) = I (ma S' 2 z)) : CR sv G S' m' := by
  obtain ⟨c0, c1, c2, c3, c4, c5, c6⟩ := c
  obtain ⟨e1, e2, e3⟩ := e
  have im : IMM sv m m' := ⟨by omega, fun b _ _ => by rw [c2], fun f b _ _ _ => c0 f b (by omega), fun f b _ _ _ => by rw [c3], fun f b _ _ _ => by rw [c4], fun b _ _ => by rw [c5]⟩
  have em : EM S' S := ⟨fun J a b => e1 J (by omega), by rw [e3]⟩
  have es : ∀ v, SV S' S v := fun v => ⟨fun J a b => by rw [e1 J (by omega)], fun J _ _ => by rw [e2], fun d _ _ => by rw [e1 24 (by decide)]⟩
  have hcf : CF sv m' := by
    have := h.cf
    unfold CF at this ⊢
    rw [c1, c2, c4, c6]; exact this
  refine ⟨hcf, by rw [e3]; exact (c0 _ _ (by omega)).trans h.f4, by rw [e3]; exact (c0 _ _ (by omega)).trans h.f5, by rw [e3]; exact (c0 _ _ (by omega)).trans h.f6, z0, z1, z2, fun p x y => by rw [e1 27 (by decide)]; exact (c0 _ _ (by omega)).trans (h.p0 p x y), fun p x y => by rw [e1 28 (by decide)]; exact (c0 _ _ (by omega)).trans (h.p1 p x y), fun p i x y z w => by rw [e1 26 (by decide), c5]; exact h.pe p i x y z w, fun i x y => ?_, fun i j x y z => h.mi i j x y (by rw [e3] at z; exact z), fun k x y => ?_, fun k l x y z => h.gi k l x y (by rw [e3] at z; exact z)⟩
  · rw [e3] at y
    exact (h.mt i x y).fr im (fun b u _ => ⟨by rw [c2], fun f q => ⟨c0 f b (by omega), by rw [c4]⟩, by rw [c6]⟩) (by rw [c6]) rfl rfl (fun _ _ _ => rfl) (by rw [e1 4 (by decide)]) (by rw [e1 5 (by decide)]) (by rw [e1 6 (by decide)]) (fun _ _ _ => by rw [e1 25 (by decide)]) (es _) (fun _ _ _ _ => es _) (fun p d _ _ _ _ => by rw [kept_cg em]) (fun p d _ _ _ _ => by rw [ownb_cg em])
  · rw [e3] at y
    exact (h.mg k x y).fr im (by rw [c2]) (fun f q => ⟨c0 f _ (by omega), by rw [c4]⟩) (by rw [c6]) rfl rfl rfl (fun J u v => by rw [e1 J (by omega)]) (fun _ => es _)
theorem zA_inj {z y : Int} (hz : 0 ≤ z) (hy : 0 ≤ y) (e : zA sv z = zA sv y) : z = y := by unfold zA at e; omega
theorem KP.zone {z : Int} {f : Nat} {x : Int32} (hz : z < 3) : KP sv m (sfi m f (zA sv z) x) := ⟨Nat.le_refl _, fun b u _ => ⟨rfl, fun g => fi_a (by unfold zA; omega), fun _ => rfl, rfl, rfl⟩⟩
theorem SI.exr {S' : MS} (hs : SI t S) (r : ∀ J, 3 ≤ J → J ≤ 40 → ma S' J = ma S J) (el : ml S' = ml S) (ef : ∀ J, J ≠ 45 → mf S' J = mf S J) (hw : WR t S') (hf : FRV S') : SI t S' := by
  have r4 := r 4 (by decide) (by decide)
  have r5 := r 5 (by decide) (by decide)
  have r6 := r 6 (by decide) (by decide)
  have r8 := r 8 (by decide) (by decide)
  have r9 := r 9 (by decide) (by decide)
  have r17 := r 17 (by decide) (by decide)
  have r18 := r 18 (by decide) (by decide)
  have r25 := r 25 (by decide) (by decide)
  have r26 := r 26 (by decide) (by decide)
  have r31 := r 31 (by decide) (by decide)
  have r33 := r 33 (by decide) (by decide)
  have r34 := r 34 (by decide) (by decide)
  have r35 := r 35 (by decide) (by decide)
  have r37 := r 37 (by decide) (by decide)
  have r38 := r 38 (by decide) (by decide)
  have r39 := r 39 (by decide) (by decide)
  have r40 := r 40 (by decide) (by decide)
  have f3 := ef 3 (by decide)
  have f7 := ef 7 (by decide)
  have f29 := ef 29 (by decide)
  have f30 := ef 30 (by decide)
  refine ⟨hw, hf, ?_, ?_, ?_, ?_, ?_, ?_, ?_, ?_, ?_, ?_⟩
  · have := hs.mq; unfold MQS at this ⊢; simp only [r31, r37, f29, f30]; exact this
  · have := hs.lo; unfold LO at this ⊢; simp only [r18, r5, r4, f3]; exact this
  · have := hs.rp; unfold RP at this ⊢; simp only [r31, r39, f29, f30]; exact this
  · have := hs.sq; unfold SQ at this ⊢; simp only [r25, r5, r9, r31, r34, r35, f3, f29]; exact this
  · have := hs.il; unfold IL at this ⊢; simp only [r17, r18, r5, f3]; exact this
  · have := hs.no; unfold NO at this ⊢; simp only [r17, r5, r4, r6, r31, r38, r40, r34, r33, f3, f29]; exact this
  · have := hs.nv; unfold NV at this ⊢; simp only [r5, r25, r8, r31, r35, f3, f7, f29]; exact this
  · intro v a b
    rw [f7] at b
    rw [el, hs.dt v a b, dts_R, dts_R, el]
    exact datR_cg (by rw [r 11 (by decide) (by decide)]) (by rw [r 14 (by decide) (by decide)]) (by rw [r 15 (by decide) (by decide)]) (by rw [r 16 (by decide) (by decide)]) rfl rfl
  · have := hs.lb; unfold LBS at this ⊢; rw [el, f7]; exact this
  · have := hs.de; unfold DE at this ⊢; simp only [r26]; exact this
theorem SI.setOff {z o : Int} (hs : SI t S) (h0 : -12 ≤ o) (h1 : o ≤ 12) : SI t (seta S 0 z o) := by
  have e : EZ (seta S 0 z o) S := ⟨fun J a => seta_ne (by omega), rfl, rfl⟩
  refine hs.ex (EX.seta S 0 z o) (by decide) (hs.wr.ez e fun y a b => ?_) (hs.fr.ez e)
  have := hs.wr.zn a b
  refine ⟨?_, by rw [seta_ne (by decide), seta_ne (by decide)]; exact this.2⟩
  show -12 ≤ (if 0 = 0 ∧ y = z then o else ma S 0 y) ∧ (if 0 = 0 ∧ y = z then o else ma S 0 y) ≤ 12
  split <;> omega
theorem SI.setSum {z a b : Int} (hs : SI t S) (g : gSu a b = true) : SI t (seta (seta S 1 z a) 2 z b) := by
  have e : EZ (seta (seta S 1 z a) 2 z b) S := ⟨fun J q => (seta_ne (by omega)).trans (seta_ne (by omega)), rfl, rfl⟩
  have hw : ∀ y, 0 ≤ y → y < 3 → (-12 ≤ ma (seta (seta S 1 z a) 2 z b) 0 y ∧ ma (seta (seta S 1 z a) 2 z b) 0 y ≤ 12) ∧ (ma (seta (seta S 1 z a) 2 z b) 1 y = -1 ∨ (0 ≤ ma (seta (seta S 1 z a) 2 z b) 1 y ∧ ma (seta (seta S 1 z a) 2 z b) 1 y < 60 ∧ ma (seta (seta S 1 z a) 2 z b) 1 y < ma (seta (seta S 1 z a) 2 z b) 2 y ∧ ma (seta (seta S 1 z a) 2 z b) 2 y ≤ 60)) := fun y p q => by
    have := hs.wr.zn p q
    have g' : a = -1 ∨ ((0 ≤ a ∧ a ≤ 59) ∧ (a + 1 ≤ b ∧ b ≤ 60)) := by
      unfold gSu at g
      simp only [Bool.or_eq_true, Bool.and_eq_true, decide_eq_true_eq] at g
      exact g
    have e0 : ma (seta (seta S 1 z a) 2 z b) 0 y = ma S 0 y := by rw [seta_ne (by decide), seta_ne (by decide)]
    have e1 : ma (seta (seta S 1 z a) 2 z b) 1 y = if y = z then a else ma S 1 y := by
      rw [seta_ne (by decide)]
      show (if 1 = 1 ∧ y = z then a else ma S 1 y) = _
      by_cases c : y = z
      · rw [if_pos ⟨rfl, c⟩, if_pos c]
      · rw [if_neg (fun k => c k.2), if_neg c]
    have e2 : ma (seta (seta S 1 z a) 2 z b) 2 y = if y = z then b else ma S 2 y := by
      show (if 2 = 2 ∧ y = z then b else ma (seta S 1 z a) 2 y) = _
      by_cases c : y = z
      · rw [if_pos ⟨rfl, c⟩, if_pos c]
      · rw [if_neg (fun k => c k.2), if_neg c, seta_ne (by decide)]
    rw [e0, e1, e2]
    refine ⟨this.1, ?_⟩
    by_cases c : y = z
    · rw [if_pos c, if_pos c]; omega
    · rw [if_neg c, if_neg c]; exact this.2
  have s1 : WR t (seta (seta S 1 z a) 2 z b) := hs.wr.ez e hw
  exact hs.exr (fun J p q => e.1 J (by omega)) rfl (fun _ _ => rfl) s1 (hs.fr.ez e)
theorem q_setOffset {z o : Int} (h : CR sv G S m) (hs : SI t S) (zl : -2147483648 ≤ z) (zh : z < 2147483648) (ol : -2147483648 ≤ o) (oh : o < 2147483648) : OUTR sv (F_X6_setOffset sv (I z) (I o)) m (gZ z) (gI o) true (I (ma S 0 z)) (seta S 0 z o) S := by
  by_cases g1 : gZ z = true
  · have q := gZ_d g1
    by_cases g2 : gI o = true
    · refine OUTR.ok g1 g2 rfl ⟨G, sfi m 384 (zA sv z) (I o), ?_, ?_, KP.zone q.2⟩
      · unfold F_X6_setOffset
        simp only [xb_xp, xb_as]
        rw [os_b h.cf, xb_need (c_zoneNumbered h zl zh), if_pos g1, show (-12 : Int32) = I (-12) by decide, gl12, xb_need (c_needRange ol oh (by decide) (by decide) (by decide) (by decide)), show gIn o (-12) 12 = gI o from rfl, if_pos g2, yz0 h q.1 q.2, xb_ok (x_si (f := 384) rfl (h.cf.zt z q.1 q.2)), xp_ap]
      · refine h.ez ⟨fun J a => seta_ne (by omega), rfl, rfl⟩ ⟨fun f b c => fi_n (by omega), rfl, rfl, rfl, rfl, rfl, rfl⟩ (fun y a b => ?_) (fun y a b => ?_) (fun y a b c => ?_)
        · show qfi (sfi m 384 (zA sv z) (I o)) 384 (zA sv y) = I (if 0 = 0 ∧ y = z then o else ma S 0 y)
          by_cases c : y = z
          · subst c; rw [if_pos ⟨rfl, rfl⟩]; exact fi_s
          · rw [if_neg (fun k => c k.2), fi_a (fun k => c (zA_inj a q.1 k))]; exact h.z0 y a b
        · rw [seta_ne (by decide)]; exact (fi_n (by decide)).trans (h.z1 y a b)
        · rw [seta_ne (by decide)] at c ⊢; exact (fi_n (by decide)).trans (h.z2 y a b c)
    · refine OUTR.e2 h g1 g2 ?_
      unfold F_X6_setOffset
      simp only [xb_xp, xb_as]
      rw [os_b h.cf, xb_need (c_zoneNumbered h zl zh), if_pos g1, show (-12 : Int32) = I (-12) by decide, gl12, xb_need (c_needRange ol oh (by decide) (by decide) (by decide) (by decide)), show gIn o (-12) 12 = gI o from rfl, if_neg g2]
  · refine OUTR.e1 h g1 ?_
    unfold F_X6_setOffset
    simp only [xb_xp, xb_as]
    rw [os_b h.cf, xb_need (c_zoneNumbered h zl zh), if_neg g1]
theorem nSu {β : Type} {a b : Int} {f : Unit → QX β} (al : -2147483648 ≤ a) (ah : a < 2147483648) (bl : -2147483648 ≤ b) (bh : b < 2147483648) : xb (if decide (¬ I a = (-1 : Int32)) = true then xb (F_X6_needDay (I a)) fun _ => xb (F_X6_needRange (I b) (I a + (1 : Int32)) (60 : Int32)) fun _ => xp () else xp ()) f m = if gSu a b = true then f () m else some (.error 2, m) := by
  rw [glm1, d_ne (by omega) (by omega) (by omega) (by omega)]
  unfold gSu
  by_cases c : a = -1
  · rw [decide_eq_false (fun q => q c), if_neg (by decide), xb_xp, decide_eq_true c]; rfl
  · rw [decide_eq_true c, if_pos rfl, decide_eq_false c, Bool.false_or, xb_as, xb_need (c_needDay al ah), show decide (0 ≤ a ∧ a ≤ 59) = gD a from rfl]
    by_cases d : gD a = true
    · have q := gD_d d
      rw [if_pos d, gl1, I_add, gl60, xb_as, xb_need (c_needRange bl bh (by omega) (by omega) (by decide) (by decide)), show gIn b (a + 1) 60 = decide (a + 1 ≤ b ∧ b ≤ 60) from rfl, d, Bool.true_and]; rfl
    · rw [if_neg d, Bool.eq_false_iff.mpr d]; rfl
theorem q_setSummer {z a b : Int} (h : CR sv G S m) (hs : SI t S) (zl : -2147483648 ≤ z) (zh : z < 2147483648) (al : -2147483648 ≤ a) (ah : a < 2147483648) (bl : -2147483648 ≤ b) (bh : b < 2147483648) : OUTR sv (F_X6_setSummer sv (I z) (I a) (I b)) m (gZ z) (gSu a b) true (I (ma S 1 z)) (seta (seta S 1 z a) 2 z b) S := by
  by_cases g1 : gZ z = true
  · have q := gZ_d g1
    by_cases g2 : gSu a b = true
    · refine OUTR.ok g1 g2 rfl ⟨G, sfi (sfi m 385 (zA sv z) (I a)) 386 (zA sv z) (I b), ?_, ?_, (KP.zone q.2).trans (KP.zone q.2)⟩
      · unfold F_X6_setSummer
        simp only [xb_xp, xb_as]
        rw [os_b h.cf, xb_need (c_zoneNumbered h zl zh), if_pos g1, nSu al ah bl bh, if_pos g2, yz1 h q.1 q.2, xb_ok (x_si (f := 385) rfl (h.cf.zt z q.1 q.2)), xb_ok (x_si (f := 386) rfl (m := sfi m 385 (zA sv z) (I a)) (show qty (sfi m 385 (zA sv z) (I a)) (zA sv z) = (1, 6, 0) from h.cf.zt z q.1 q.2)), xp_ap]
      · refine h.ez ⟨fun J c => (seta_ne (by omega)).trans (seta_ne (by omega)), rfl, rfl⟩ ⟨fun f b c => (fi_n (by omega)).trans (fi_n (by omega)), rfl, rfl, rfl, rfl, rfl, rfl⟩ (fun y c d => ?_) (fun y c d => ?_) (fun y c d k => ?_)
        · rw [seta_ne (by decide), seta_ne (by decide), fi_n (by decide), fi_n (by decide)]; exact h.z0 y c d
        · rw [seta_ne (by decide), fi_n (by decide)]
          show qfi (sfi m 385 (zA sv z) (I a)) 385 (zA sv y) = I (if 1 = 1 ∧ y = z then a else ma S 1 y)
          by_cases k : y = z
          · subst k; rw [if_pos ⟨rfl, rfl⟩]; exact fi_s
          · rw [if_neg (fun w => k w.2), fi_a (fun w => k (zA_inj c q.1 w))]; exact h.z1 y c d
        · rw [seta_ne (by decide)] at k
          show qfi (sfi (sfi m 385 (zA sv z) (I a)) 386 (zA sv z) (I b)) 386 (zA sv y) = I (if 2 = 2 ∧ y = z then b else ma (seta S 1 z a) 2 y)
          by_cases w : y = z
          · subst w; rw [if_pos ⟨rfl, rfl⟩]; exact fi_s
          · rw [if_neg (fun k => w k.2), fi_a (fun k => w (zA_inj c q.1 k)), fi_n (by decide), seta_ne (by decide)]
            exact h.z2 y c d (fun k2 => k (by
              show (if 1 = 1 ∧ y = z then a else ma S 1 y) = -1
              rw [if_neg (fun w2 => w w2.2)]; exact k2))
    · refine OUTR.e2 h g1 g2 ?_
      unfold F_X6_setSummer
      simp only [xb_xp, xb_as]
      rw [os_b h.cf, xb_need (c_zoneNumbered h zl zh), if_pos g1, nSu al ah bl bh, if_neg g2]
  · refine OUTR.e1 h g1 ?_
    unfold F_X6_setSummer
    simp only [xb_xp, xb_as]
    rw [os_b h.cf, xb_need (c_zoneNumbered h zl zh), if_neg g1]
end C21
