theorem php : ∀ (M n : Nat) (f : Nat → Nat), (∀ v, v < n → f v < M) → (∀ v w, v < n → w < n → f v = f w → v = w) → n ≤ M := by
  intro M
  induction M with
  | zero =>
    intro n f h _
    rcases Nat.eq_zero_or_pos n with e | e
    · omega
    · exact absurd (h 0 e) (Nat.not_lt_zero _)
  | succ M ih =>
    intro n f h hi
    rcases Nat.eq_zero_or_pos n with e | e
    · omega
    · have : n - 1 ≤ M := ih (n - 1) (fun v => if f v = M then f (n - 1) else f v) (fun v hv => by
        show (if f v = M then f (n - 1) else f v) < M
        have h1 := h v (by omega)
        have h2 := h (n - 1) (by omega)
        split
        next q =>
          have : f (n - 1) ≠ M := fun z => by
            have := hi v (n - 1) (by omega) (by omega) (q.trans z.symm)
            omega
          omega
        next q => omega) (fun v w hv hw q => by
        have q : (if f v = M then f (n - 1) else f v) = (if f w = M then f (n - 1) else f w) := q
        by_cases a : f v = M
        · by_cases b : f w = M
          · exact hi v w (by omega) (by omega) (a.trans b.symm)
          · rw [if_pos a, if_neg b] at q
            have := hi (n - 1) w (by omega) (by omega) q
            omega
        · by_cases b : f w = M
          · rw [if_neg a, if_pos b] at q
            have := hi v (n - 1) (by omega) (by omega) q
            omega
          · rw [if_neg a, if_neg b] at q
            exact hi v w (by omega) (by omega) q)
      omega
theorem surj_le {n M : Nat} {g : Nat → Int} (h : ∀ v : Nat, v < n → ∃ j, j < M ∧ g j = v) : n ≤ M := by
  have hc : ∀ v : Nat, ∃ j, v < n → j < M ∧ g j = v := fun v => by
    by_cases q : v < n
    · obtain ⟨j, a, b⟩ := h v q
      exact ⟨j, fun _ => ⟨a, b⟩⟩
    · exact ⟨0, fun z => absurd z q⟩
  obtain ⟨f, hf⟩ := Classical.axiomOfChoice hc
  exact php M n f (fun v hv => (hf v hv).1) (fun v w hv hw q => by
    have h1 := (hf v hv).2
    have h2 := (hf w hw).2
    rw [q, h2] at h1
    omega)
section C19
variable {sv : Nat} {G : GM} {S : MS} {m M : QM} {t : Int} {i : Int} {ri : Nat → Int} {rl RL : Nat → Int64} {rd : Int → Int} {a' : Nat}
theorem SI.to (hs : SI t S) (hi : 0 ≤ i) (hi' : i < mf S 3) : toOf S i < 158 := by
  have hn := hs.wr.nn
  have hm := hs.wr.mt hi hi'
  obtain ⟨n1, n2, n3, n4, n5⟩ := hs.nv
  unfold toOf
  by_cases c : ma S 8 (ma S 5 i) = 0
  · rw [if_pos c]; omega
  · rw [if_neg c]
    have hv := hs.wr.vs hm.2.1.1 hm.2.1.2
    have hle := surj_le (n := (mf S 7).toNat) (M := (mf S 3).toNat - 1 + (mf S 29).toNat) (g := fun j => if j < (mf S 3).toNat - 1 then ma S 5 (if (j : Int) < i then (j : Int) else (j : Int) + 1) else ma S 35 ((j : Int) - ((mf S 3).toNat - 1 : Nat))) (fun v hv => by
      have msg : (∃ k, 0 ≤ k ∧ k < mf S 29 ∧ ma S 35 k = v) → ∃ j, j < (mf S 3).toNat - 1 + (mf S 29).toNat ∧ (if j < (mf S 3).toNat - 1 then ma S 5 (if (j : Int) < i then (j : Int) else (j : Int) + 1) else ma S 35 ((j : Int) - ((mf S 3).toNat - 1 : Nat))) = v := fun ⟨k, k0, k1, k2⟩ => ⟨(mf S 3).toNat - 1 + k.toNat, by omega, by
        rw [if_neg (by omega), show (((mf S 3).toNat - 1 + k.toNat : Nat) : Int) - ((mf S 3).toNat - 1 : Nat) = k by omega]; exact k2⟩
      rcases n4 v (by omega) (by omega) with ⟨j, j0, j1, j2⟩ | q
      · by_cases e : j = i
        · subst e
          exact msg (n5 v (by omega) (by omega) (by rw [j2] at hv c; omega))
        · by_cases l : j < i
          · refine ⟨j.toNat, by omega, ?_⟩
            rw [if_pos (by omega), if_pos (by omega), show ((j.toNat : Nat) : Int) = j by omega]; exact j2
          · refine ⟨(j - 1).toNat, by omega, ?_⟩
            rw [if_pos (by omega), if_neg (by omega), show (((j - 1).toNat : Nat) : Int) + 1 = j by omega]; exact j2
      · exact msg q)
    omega
theorem SI.vok (hs : SI t S) (ht : t + 2 ≤ 600) : VOK t S := ⟨hs.wr, ht, hs.fr, fun _ a b => hs.to a b⟩
theorem SI.vb (hs : SI t S) (hi : 0 ≤ i) (hi' : i < mf S 3) : VB (fun J => ma S J (ma S 5 i)) (fun J => ml S J (ma S 5 i)) (fun d => ma S 24 (60 * ma S 5 i + d)) := by
  have hn := hs.wr.nn
  have hm := hs.wr.mt hi hi'
  have hv := hs.wr.vs hm.2.1.1 hm.2.1.2
  exact ⟨⟨hv.2.2.2.1, hv.2.2.2.2.2.2.1, hv.2.2.2.2.2.2.2.1, hv.2.2.2.2.2.2.2.2.1⟩, hv.2.2.2.2.2.2.2.2.2.2.2, ⟨hv.2.1.1, by show ma S 9 (ma S 5 i) ≤ 1000; omega⟩, hs.lb _ hm.2.1.1 hm.2.1.2, fun e x y => by
    have := hs.wr.dl hm.2.1.1 hm.2.1.2 x y
    exact ⟨this.1, this.2.1⟩⟩
theorem nz {x : Int} (h : x = 0 ∨ x = 1) : (!decide (¬ I x = (0 : Int32))) = decide (x = 0) := by
  rcases h with e | e <;> subst e <;> decide
theorem gH_e (g : gM S i = true) : gH S i = decide (ma S 19 (ma S 5 i) = 0) := by
  have := gM_d g
  unfold gH
  exact decide_eq_decide.mpr ⟨fun q => q.2, fun q => ⟨this, q⟩⟩
def OUTR {α : Type} (sv : Nat) (x : QX α) (m : QM) (a b c : Bool) (v : α) (S1 S : MS) : Prop := if (a && b && c) = true then OUT sv x m (.ok v) S1 else OUT sv x m (rs3 a b c v) S
theorem OUTR.e1 {α : Type} {x : QX α} {a b c : Bool} {v : α} {S1 : MS} (h : CR sv G S m) (g : ¬ a = true) (e : x m = some (.error 1, m)) : OUTR sv x m a b c v S1 S := by
  unfold OUTR
  rw [if_neg (by rw [Bool.eq_false_iff.mpr g]; simp), rs3_1 g]; exact OUT.q h e
theorem OUTR.e2 {α : Type} {x : QX α} {a b c : Bool} {v : α} {S1 : MS} (h : CR sv G S m) (g : a = true) (g2 : ¬ b = true) (e : x m = some (.error 2, m)) : OUTR sv x m a b c v S1 S := by
  unfold OUTR
  rw [if_neg (by rw [Bool.eq_false_iff.mpr g2]; simp), rs3_2 g g2]; exact OUT.q h e
theorem OUTR.e3 {α : Type} {x : QX α} {a b c : Bool} {v : α} {S1 : MS} (h : CR sv G S m) (g : a = true) (g2 : b = true) (g3 : ¬ c = true) (e : x m = some (.error 3, m)) : OUTR sv x m a b c v S1 S := by
  unfold OUTR
  rw [if_neg (by rw [Bool.eq_false_iff.mpr g3]; simp), rs3_3 g g2 g3]; exact OUT.q h e
theorem OUTR.ok {α : Type} {x : QX α} {a b c : Bool} {v : α} {S1 : MS} (g : a = true) (g2 : b = true) (g3 : c = true) (e : OUT sv x m (.ok v) S1) : OUTR sv x m a b c v S1 S := by
  unfold OUTR
  rw [if_pos (by rw [g, g2, g3]; rfl)]; exact e
theorem c_fin (h : CR sv G S m) (hs : SI t S) (ht : t + 2 ≤ 600) (hi : 0 ≤ i) (hi' : i < mf S 3) (hr : OKR (t + 1) ri rd) (ho : hb (ri 18) (ma S 4 i) = false) (mk : MK sv m M a' ri RL rd) (hl : ∀ J, 20 ≤ J → J ≤ 22 → RL J = rl J) (hd : RL 23 = datR ri rl) :
    CR sv G S M ∧ ∃ G' m', F_X6_putVersion sv (some (am G i)) (some a') M = some (.ok (I (ri 9)), m') ∧ CR sv G' (sHold (XV S i ri rl rd) i (toOf S i)) m' ∧ KP sv m m' := by
  have hC := h.grow mk.2.1
  obtain ⟨G', m', e1, e2, e3⟩ := c_putVersion hC hs ht hi hi' (hs.to hi hi') hr ho mk.1 hl hd
  exact ⟨hC, G', m', e1, e2, (mk.2.1.kp h.cf.top).trans e3⟩
theorem q_time {d c l : Int} (h : CR sv G S m) (hs : SI t S) (ht : t + 2 ≤ 600) (il : -2147483648 ≤ i) (ih : i < 2147483648) (dl : -2147483648 ≤ d) (dh : d < 2147483648) (cl : -2147483648 ≤ c) (ch : c < 2147483648) (ll : -2147483648 ≤ l) (lh : l < 2147483648) : OUTR sv (F_X6_time sv (I i) (I d) (I c) (I l)) m (gM S i) (gT d c l) (gH S i) (I (rI S i 9)) (sTime S i d c l) S := by
  by_cases g1 : gM S i = true
  · have q := gM_d g1
    have hm := h.mt i q.1 q.2
    have hx := hs.wr.mt q.1 q.2
    have hv := hs.wr.vs hx.2.1.1 hx.2.1.2
    by_cases g2 : gT d c l = true
    · have q2 : (0 ≤ d ∧ d ≤ 59) ∧ (0 ≤ c ∧ c ≤ 23) ∧ (1 ≤ l ∧ l ≤ 23) := of_decide_eq_true g2
      by_cases g3 : gH S i = true
      · have hr : OKR (t + 1) (updi (updi (updi (rI S i) 11 d) 12 c) 13 l) (rdAll (rD S i) (rI S i 9)) := OKR_all (OKR_upd (OKR_upd (OKR_upd (OKR_next hs.wr q.1 q.2) (by omega) (by omega) (by omega) (by omega) (by omega) (by omega) (by omega) (by omega) (by omega) (by omega)) (by omega) (by omega) (by omega) (by omega) (by omega) (by omega) (by omega) (by omega) (by omega) (by omega)) (by omega) (by omega) (by omega) (by omega) (by omega) (by omega) (by omega) (by omega) (by omega) (by omega))
        obtain ⟨M, a', e1, mk⟩ := v_time (d := d) (c := c) (l := l) hm.now h.cf.top (hs.vb q.1 q.2) q2.1.1 (by omega)
        obtain ⟨hC, G', m', e2, e3, e4⟩ := c_fin (i := i) (ri := updi (updi (updi (rI S i) 11 d) 12 c) 13 l) (rl := rL S i) (rd := rdAll (rD S i) (rI S i 9)) h hs ht q.1 q.2 hr (hs.lo i q.1 q.2) mk (fun J a b => if_neg (by omega)) (if_pos rfl)
        refine OUTR.ok g1 g2 g3 ⟨G', m', ?_, e3, e4⟩
        unfold F_X6_time
        simp only [xb_xp, xb_as]
        rw [os_b h.cf, xb_need (c_meetingNumbered h hs.wr il ih), if_pos g1, xb_need (c_needTime dl dh cl ch ll lh), if_pos g2, ym2 hm, yv16 hm.now, nz hv.2.2.2.2.2.2.2.2.2.2.2, ← gH_e g1, xb_need (c_needState _ _), if_pos g3, ym2 hm, ov_b hm.now, xb_ok e1, os hC.cf]
        exact e2
      · refine OUTR.e3 h g1 g2 g3 ?_
        unfold F_X6_time
        simp only [xb_xp, xb_as]
        rw [os_b h.cf, xb_need (c_meetingNumbered h hs.wr il ih), if_pos g1, xb_need (c_needTime dl dh cl ch ll lh), if_pos g2, ym2 hm, yv16 hm.now, nz hv.2.2.2.2.2.2.2.2.2.2.2, ← gH_e g1, xb_need (c_needState _ _), if_neg g3]
    · refine OUTR.e2 h g1 g2 ?_
      unfold F_X6_time
      simp only [xb_xp, xb_as]
      rw [os_b h.cf, xb_need (c_meetingNumbered h hs.wr il ih), if_pos g1, xb_need (c_needTime dl dh cl ch ll lh), if_neg g2]
  · refine OUTR.e1 h g1 ?_
    unfold F_X6_time
    simp only [xb_xp, xb_as]
    rw [os_b h.cf, xb_need (c_meetingNumbered h hs.wr il ih), if_neg g1]
end C19
