section C39
variable {S S' X Y : MS} {t u : Int} {p i q j k : Int} {ri : Nat → Int} {rl : Nat → Int64} {rd : Int → Int}
theorem SI.hold' (hs : SI t S) (ht : t + 2 ≤ 600) (hi : 0 ≤ i) (hi' : i < mf S 3) (hr : OKR (t + 1) ri rd) (h9 : ri 9 = ma S 9 (ma S 5 i) + 1) (h17 : ri 17 = ma S 17 (ma S 5 i)) (h18 : ri 18 = ma S 18 (ma S 5 i)) (h20 : LB (rl 20)) : SI (t + 1) (sHold (XV S i ri rl rd) i (toOf S i)) :=
  hs.hold ht hi hi' hr h9 (fun p p0 p1 => by rw [h17, h18]; exact hs.il i p hi hi' p0 p1) (by rw [h17]; exact (hs.no.1 i hi hi').1) (by rw [h18]; exact hs.lo i hi hi') h20
theorem SI.lb0 (hs : SI t S) (hi : 0 ≤ i) (hi' : i < mf S 3) : LB (rL S i 20) := hs.lb _ (hs.wr.mt hi hi').2.1.1 (hs.wr.mt hi hi').2.1.2
theorem SI.time {d c l : Int} (hs : SI t S) (ht : t + 2 ≤ 600) (g1 : gM S i = true) (g2 : gT d c l = true) : SI (t + 1) (sTime S i d c l) := by
  have q := gM_d g1
  have q2 : (0 ≤ d ∧ d ≤ 59) ∧ (0 ≤ c ∧ c ≤ 23) ∧ (1 ≤ l ∧ l ≤ 23) := of_decide_eq_true g2
  have hr : OKR (t + 1) (updi (updi (updi (rI S i) 11 d) 12 c) 13 l) (rdAll (rD S i) (rI S i 9)) := OKR_all (OKR_upd (OKR_upd (OKR_upd (OKR_next hs.wr q.1 q.2) (by omega) (by omega) (by omega) (by omega) (by omega) (by omega) (by omega) (by omega) (by omega) (by omega)) (by omega) (by omega) (by omega) (by omega) (by omega) (by omega) (by omega) (by omega) (by omega) (by omega)) (by omega) (by omega) (by omega) (by omega) (by omega) (by omega) (by omega) (by omega) (by omega) (by omega))
  exact hs.hold' ht q.1 q.2 hr rfl rfl rfl (hs.lb0 q.1 q.2)
theorem SI.repeat {s w c : Int} (hs : SI t S) (ht : t + 2 ≤ 600) (g1 : gM S i = true) (g2 : gR s w c = true) : SI (t + 1) (sRepeat S i s w c) := by
  have q := gM_d g1
  have q2 : (1 ≤ s ∧ s ≤ 28) ∧ (1 ≤ w ∧ w ≤ 127) ∧ (1 ≤ c ∧ c ≤ 10) := by
    have z := g2
    unfold gR at z
    simp only [Bool.and_eq_true, decide_eq_true_eq] at z
    exact ⟨z.1.1, z.1.2, z.2⟩
  have hr : OKR (t + 1) (updi (updi (updi (rI S i) 14 s) 15 w) 16 c) (rdAll (rD S i) (rI S i 9)) := OKR_all (OKR_upd (OKR_upd (OKR_upd (OKR_next hs.wr q.1 q.2) (by omega) (by omega) (by omega) (by omega) (by omega) (by omega) (by omega) (by omega) (by omega) (by omega)) (by omega) (by omega) (by omega) (by omega) (by omega) (by omega) (by omega) (by omega) (by omega) (by omega)) (by omega) (by omega) (by omega) (by omega) (by omega) (by omega) (by omega) (by omega) (by omega) (by omega))
  exact hs.hold' ht q.1 q.2 hr rfl rfl rfl (hs.lb0 q.1 q.2)
theorem SI.drop {d : Int} (hs : SI t S) (ht : t + 2 ≤ 600) (g1 : gM S i = true) : SI (t + 1) (sDrop S i d) := by
  have q := gM_d g1
  exact hs.hold' ht q.1 q.2 (OKR_next hs.wr q.1 q.2) rfl rfl rfl (LB_and (hs.lb0 q.1 q.2))
theorem SI.add {d : Int} (hs : SI t S) (ht : t + 2 ≤ 600) (g1 : gM S i = true) (g2 : gD d = true) : SI (t + 1) (sAdd S i d) := by
  have q := gM_d g1
  have q2 := gD_d g2
  have hx := hs.wr.mt q.1 q.2
  have hd := hs.wr.dl hx.2.1.1 hx.2.1.2 q2.1 q2.2
  exact hs.hold' ht q.1 q.2 (OKR_d (OKR_next hs.wr q.1 q.2) (by show 0 ≤ ma S 24 (60 * ma S 5 i + d) % 2048 ∧ ma S 24 (60 * ma S 5 i + d) % 2048 < 1440; omega)) rfl rfl rfl (LB_or (hs.lb0 q.1 q.2) (LB_bit q2.1 q2.2))
theorem SI.move {d c : Int} (hs : SI t S) (ht : t + 2 ≤ 600) (g1 : gM S i = true) (hc : 0 ≤ c ∧ c < 1440) : SI (t + 1) (sMove S i d c) := by
  have q := gM_d g1
  exact hs.hold' ht q.1 q.2 (mvOK hs q.1 q.2 hc) rfl rfl rfl (hs.lb0 q.1 q.2)
theorem SI.cancel (hs : SI t S) (ht : t + 2 ≤ 600) (g1 : gM S i = true) : SI (t + 1) (sCancel S i) := by
  have q := gM_d g1
  exact hs.hold' ht q.1 q.2 (OKR_upd (OKR_next hs.wr q.1 q.2) (by omega) (by omega) (by omega) (by omega) (by omega) (by omega) (by omega) (by omega) (by omega) (by omega)) rfl rfl rfl (hs.lb0 q.1 q.2)
theorem SI.invite (b : Bool) (hs : SI t S) (ht : t + 2 ≤ 600) (g1 : gM S i = true) (g2 : gP p = true) (g3 : ma S 4 i ≠ p) : SI (t + 1) (sInvite S i p b) := by
  have q := gM_d g1
  have qp := gP_d g2
  have hm := hs.wr.mt q.1 q.2
  have hv := hs.wr.vs hm.2.1.1 hm.2.1.2
  have v17 := hv.2.2.2.2.2.2.2.2.2.1
  have v18 := hv.2.2.2.2.2.2.2.2.2.2.1
  have e17 : rInv S i p b 17 = if b = true then orb (ma S 17 (ma S 5 i)) p else anb (ma S 17 (ma S 5 i)) p := rfl
  have e18 : rInv S i p b 18 = if b = true then anb (ma S 18 (ma S 5 i)) p else orb (ma S 18 (ma S 5 i)) p := rfl
  have h17 : ∀ x, 0 ≤ x → x < 5 → hb (rInv S i p b 17) x = (if b = true then (hb (ma S 17 (ma S 5 i)) x || decide (x = p)) else (hb (ma S 17 (ma S 5 i)) x && !decide (x = p))) := fun x x0 x1 => by
    have := hb_orb v17.1 v17.2 qp.1 qp.2 x0 x1
    rw [e17]
    cases b
    · rw [if_neg (by decide), if_neg (by decide)]; exact this.2
    · rw [if_pos rfl, if_pos rfl]; exact this.1
  have h18 : ∀ x, 0 ≤ x → x < 5 → hb (rInv S i p b 18) x = (if b = true then (hb (ma S 18 (ma S 5 i)) x && !decide (x = p)) else (hb (ma S 18 (ma S 5 i)) x || decide (x = p))) := fun x x0 x1 => by
    have := hb_orb v18.1 v18.2 qp.1 qp.2 x0 x1
    rw [e18]
    cases b
    · rw [if_neg (by decide), if_neg (by decide)]; exact this.1
    · rw [if_pos rfl, if_pos rfl]; exact this.2
  refine hs.hold ht q.1 q.2 (inv_ok hs q.1 q.2 qp.1 qp.2) rfl (fun x x0 x1 => ?_) ?_ ?_ (hs.lb0 q.1 q.2)
  · rw [h17 x x0 x1, h18 x x0 x1]
    have il := hs.il i x q.1 q.2 x0 x1
    cases b
    · rw [if_neg (by decide), if_neg (by decide)]
      cases h1 : hb (ma S 17 (ma S 5 i)) x
      · intro z; rw [Bool.false_and] at z; exact absurd z (by decide)
      · rw [il h1]
        cases decide (x = p) <;> decide
    · rw [if_pos rfl, if_pos rfl]
      cases h1 : hb (ma S 17 (ma S 5 i)) x
      · cases decide (x = p)
        · intro z; exact absurd z (by decide)
        · intro _; rw [show (!true) = false from rfl, Bool.and_false]
      · rw [il h1]; intro _; rfl
  · have no := (hs.no.1 i q.1 q.2).1
    rw [h17 _ hm.1.1 hm.1.2, no, decide_eq_false g3]
    cases b <;> rfl
  · have lo := hs.lo i q.1 q.2
    rw [h18 _ hm.1.1 hm.1.2, lo, decide_eq_false g3]
    cases b <;> rfl
theorem SI.take (hs : SI t S) (ht : t + 2 ≤ 600) (g1 : gK S k = true) : SI (t + 1) (sTake S k) := by
  have q := gK_d g1
  have hk := hs.wr.ms q.1 q.2
  have hs2 := hs.set43 q.2
  exact hs2.move ht (decide_eq_true hk.2.2.2.1) (by have := hk.2.2.2.2.2.2.2.2.2.2.1; omega)
theorem SI.mk0 {z d c l : Int} (hs : SI t S) (h3 : mf S 3 < 8) (h0 : 0 ≤ p) (h1 : p < 5) (z0 : 0 ≤ z) (z1 : z < 3) (h4 : 0 ≤ d) (h5 : d < 60) (h6 : 0 ≤ c) (h8 : c < 24) (h9 : 1 ≤ l) (h10 : l ≤ 23) : SI t (mk0 S p z d c l) := by
  have hn := hs.wr.nn
  have h7 := hs.nvm h3
  have ow := mk_own (p := p) (z := z) (d := d) (c := c) (l := l) hs.fr h7
  have hf3 := hs.fr.2.1 (mf S 3) (Int.le_refl _) h3
  obtain ⟨n1, n2, n3, n4, n5⟩ := hs.nv
  have a : ∀ {J : Nat} (y : Int), J ≠ 4 → J ≠ 5 → (J < 10 ∨ 16 < J) → ma (_root_.Jvm.Pilot.CMeetingServerLaw_law_r1901_9528e9.mk0 S p z d c l) J y = ma S J y := fun y u v w => mk_a u v (Or.inl w)
  have f29 : mf (_root_.Jvm.Pilot.CMeetingServerLaw_law_r1901_9528e9.mk0 S p z d c l) 29 = mf S 29 := mk_f (by decide) (by decide)
  have f30 : mf (_root_.Jvm.Pilot.CMeetingServerLaw_law_r1901_9528e9.mk0 S p z d c l) 30 = mf S 30 := mk_f (by decide) (by decide)
  have a' : ∀ {J : Nat}, J ≠ 4 → J ≠ 5 → (J < 10 ∨ 16 < J) → ma (_root_.Jvm.Pilot.CMeetingServerLaw_law_r1901_9528e9.mk0 S p z d c l) J = ma S J := fun u v w => funext fun y => a y u v w
  refine ⟨wr_mk0 hs h3 h7 h0 h1 z0 z1 h4 h5 h6 h8 h9 h10, ⟨fun v v0 v1 => ?_, fun j j0 j1 => ?_, ?_⟩, ?_, lo_mk0 hs h7 h0 h1, ?_, ⟨fun q j p0 p1 j0 j1 => ?_, fun k k0 k1 kk => ?_⟩, fun j q j0 j1 p0 p1 g => ?_, ⟨fun j j0 j1 => ?_, fun k k0 k1 kk k8 => ?_, fun k k0 k1 kk => ?_⟩, ⟨fun j k j0 j1 k0 k1 e => ?_, fun q j p0 p1 j0 j1 => ?_, fun k k0 k1 kk => ?_, fun v v0 v1 => ?_, fun v v0 v1 v8 => ?_⟩, fun v v0 v1 => ?_, fun v v0 v1 => ?_, ?_⟩
  · rw [mk_f7] at v0
    have hv := hs.fr.1 v (by omega) v1
    rw [a v (by decide) (by decide) (by decide), a v (by decide) (by decide) (by decide), a v (by decide) (by decide) (by decide), a v (by decide) (by decide) (by decide), a v (by decide) (by decide) (by decide), mk_l (Or.inl (by decide)), mk_l (Or.inl (by decide)), mk_l (Or.inl (by decide)), a' (J := 24) (by decide) (by decide) (by decide)]
    exact hv
  · rw [mk_f3] at j0
    have := hs.fr.2.1 j (by omega) j1
    rw [mk_5, if_neg (by omega), a j (by decide) (by decide) (by decide), a' (J := 25) (by decide) (by decide) (by decide), a' (J := 26) (by decide) (by decide) (by decide)]; exact this
  · rw [f29, a' (J := 36) (by decide) (by decide) (by decide), a' (J := 38) (by decide) (by decide) (by decide), a' (J := 39) (by decide) (by decide) (by decide), a' (J := 40) (by decide) (by decide) (by decide), a' (J := 41) (by decide) (by decide) (by decide), a' (J := 42) (by decide) (by decide) (by decide), a' (J := 43) (by decide) (by decide) (by decide)]; exact hs.fr.2.2
  · have := hs.mq; unfold MQS at this ⊢; rw [f29, f30, a' (J := 31) (by decide) (by decide) (by decide), a' (J := 37) (by decide) (by decide) (by decide)]; exact this
  · have := hs.rp; unfold RP at this ⊢; rw [f29, f30, a' (J := 31) (by decide) (by decide) (by decide), a' (J := 39) (by decide) (by decide) (by decide)]; exact this
  · rw [mk_f3] at j1
    rw [a' (J := 25) (by decide) (by decide) (by decide), a' (J := 9) (by decide) (by decide) (by decide), mk_5]
    by_cases e : j = mf S 3
    · subst e; exact Or.inl (hf3.2 q p0 p1).1
    · rw [if_neg e]; exact hs.sq.1 q j p0 p1 j0 (by omega)
  · rw [f29] at k1
    rw [a k (by decide) (by decide) (by decide)] at kk
    have hk := hs.wr.ms k0 k1
    rw [a k (by decide) (by decide) (by decide), a k (by decide) (by decide) (by decide), a' (J := 9) (by decide) (by decide) (by decide), mk_5, if_neg (by omega)]
    exact hs.sq.2 k k0 k1 kk
  · rw [mk_f3] at j1
    rw [mk_5] at g ⊢
    rw [a' (J := 17) (by decide) (by decide) (by decide)] at g
    rw [a' (J := 18) (by decide) (by decide) (by decide)]
    by_cases e : j = mf S 3
    · rw [if_pos e, (hs.fr.1 (mf S 7) (Int.le_refl _) (by omega)).1.2.2.2.1]; exact hb00 p0 p1
    · rw [if_neg e] at g ⊢; exact hs.il j q j0 (by omega) p0 p1 g
  · rw [mk_f3] at j1
    rw [mk_5, mk_4, a' (J := 17) (by decide) (by decide) (by decide), a' (J := 6) (by decide) (by decide) (by decide)]
    by_cases e : j = mf S 3
    · subst e
      rw [if_pos rfl, if_pos rfl, (hs.fr.1 (mf S 7) (Int.le_refl _) (by omega)).1.2.2.1, hf3.1.2]; exact ⟨hb00 h0 h1, hb00 h0 h1⟩
    · rw [if_neg e, if_neg e]; exact hs.no.1 j j0 (by omega)
  · rw [f29] at k1
    rw [a k (by decide) (by decide) (by decide)] at kk k8
    have hk := hs.wr.ms k0 k1
    rw [a k (by decide) (by decide) (by decide), a k (by decide) (by decide) (by decide), mk_4, if_neg (by omega)]
    exact hs.no.2.1 k k0 k1 kk k8
  · rw [f29] at k1
    rw [a k (by decide) (by decide) (by decide)] at kk
    have hk := hs.wr.ms k0 k1
    rw [a k (by decide) (by decide) (by decide), a k (by decide) (by decide) (by decide), mk_4, if_neg (by omega)]
    exact hs.no.2.2 k k0 k1 kk
  · rw [mk_f3] at j1 k1
    rw [mk_5, mk_5]
    by_cases e1 : j = mf S 3
    · rw [if_pos e1, if_neg (by omega)]
      have := hs.wr.mt k0 (show k < mf S 3 by omega); omega
    · have := hs.wr.mt j0 (show j < mf S 3 by omega)
      rw [if_neg e1]
      by_cases e2 : k = mf S 3
      · rw [if_pos e2]; omega
      · rw [if_neg e2]; exact n1 j k j0 (by omega) k0 (by omega) e
  · rw [mk_f3] at j1
    rw [a' (J := 25) (by decide) (by decide) (by decide), a' (J := 8) (by decide) (by decide) (by decide)]
    by_cases e : j = mf S 3
    · subst e; exact Or.inl (hf3.2 q p0 p1).1
    · exact n2 q j p0 p1 j0 (by omega)
  · rw [f29] at k1
    rw [a k (by decide) (by decide) (by decide)] at kk
    rw [a k (by decide) (by decide) (by decide), a' (J := 8) (by decide) (by decide) (by decide)]; exact n3 k k0 k1 kk
  · rw [mk_f7] at v1
    rw [mk_f3, f29, a' (J := 35) (by decide) (by decide) (by decide)]
    by_cases e : v = mf S 7
    · exact Or.inl ⟨mf S 3, by omega, by omega, by rw [mk_5, if_pos rfl]; exact e.symm⟩
    · rcases n4 v v0 (by omega) with ⟨j, j0, j1, j2⟩ | w
      · exact Or.inl ⟨j, j0, by omega, by rw [mk_5, if_neg (by omega)]; exact j2⟩
      · exact Or.inr w
  · rw [mk_f7] at v1
    rw [a v (by decide) (by decide) (by decide)] at v8
    rw [f29, a' (J := 35) (by decide) (by decide) (by decide)]
    by_cases e : v = mf S 7
    · have := (hs.fr.1 v (by omega) (by omega)).1.1; omega
    · exact n5 v v0 (by omega) v8
  · rw [mk_f7] at v1
    rw [dts_R]
    by_cases e : v = mf S 7
    · rw [e, ow.2.2.1]
      exact (datR_cg (ow.1 11 (by decide) (by decide)) (ow.1 14 (by decide) (by decide)) (ow.1 15 (by decide) (by decide)) (ow.1 16 (by decide) (by decide)) (ow.2.1 20 (by decide) (by decide)) (ow.2.1 21 (by decide) (by decide))).symm
    · have s := mk_sv (p := p) (z := z) (d := d) (c := c) (l := l) e
      rw [s.2.1 23 (by decide) (by decide), hs.dt v v0 (by omega), dts_R]
      exact (datR_cg (s.1 11 (by decide) (by decide)) (s.1 14 (by decide) (by decide)) (s.1 15 (by decide) (by decide)) (s.1 16 (by decide) (by decide)) (s.2.1 20 (by decide) (by decide)) (s.2.1 21 (by decide) (by decide))).symm
  · rw [mk_f7] at v1
    by_cases e : v = mf S 7
    · rw [e, ow.2.1 20 (by decide) (by decide)]; exact LB_0
    · rw [mk_l (Or.inl (by decide))]; exact hs.lb v v0 (by omega)
  · have := hs.de; unfold DE at this ⊢; rw [a' (J := 26) (by decide) (by decide) (by decide)]; exact this
theorem SI.up (hs : SI t S) (h : t ≤ u) (hu : u ≤ 600) : SI u S := ⟨wr_t hs.wr h hu, hs.fr, hs.mq, hs.lo, hs.rp, hs.sq, hs.il, hs.no, hs.nv, hs.dt, hs.lb, hs.de⟩
theorem SI.make {z d c l : Int} (hs : SI t S) (ht : t + 2 ≤ 600) (g1 : (gP p && gZ z) = true) (g2 : gT d c l = true) (h3 : mf S 3 < 8) : SI (t + 1) (sMake S p z d c l) := by
  have hn := hs.wr.nn
  have g1' := Bool.and_eq_true_iff.mp g1
  have q1 := gP_d g1'.1
  have qz := gZ_d g1'.2
  have q2 : (0 ≤ d ∧ d ≤ 59) ∧ (0 ≤ c ∧ c ≤ 23) ∧ (1 ≤ l ∧ l ≤ 23) := of_decide_eq_true g2
  rw [make_mk0]
  refine ((hs.mk0 h3 q1.1 q1.2 qz.1 qz.2 (by omega) (by omega) (by omega) (by omega) (by omega) (by omega)).up (show t ≤ t + 1 by omega) (by omega)).marks (by omega) (fun q p0 p1 => ?_) q1.1 q1.2 (by omega) (by rw [mk_f3]; omega)
  rw [mk_a (by decide) (by decide) (Or.inl (by decide))]
  have := hs.wr.ps p0 p1
  omega
end C39
