def sru (x k : Int32) : Int32 := (x.toUInt32 >>> (k.toUInt32 &&& Int32.toUInt32 31)).toInt32
def bc1 (x : Int32) : Int32 := x - (sru x 1 &&& 1431655765)
def bc2 (x : Int32) : Int32 := (x &&& 858993459) + (sru x 2 &&& 858993459)
def bc3 (x : Int32) : Int32 := (x + sru x 4) &&& 252645135
def bc4 (x : Int32) : Int32 := x + sru x 8
def bc5 (x : Int32) : Int32 := x + sru x 16
def bc (x : Int32) : Int32 := bc5 (bc4 (bc3 (bc2 (bc1 x)))) &&& 63
theorem bc_x (x : Int32) : F_J6_bitCount_0f7a4 x = xp (bc x) := by
  unfold F_J6_bitCount_0f7a4
  simp only [xb_xp]
  rfl
theorem bc_t : ∀ s, s < 32 → bc (I (s : Nat)) = I (cntB (s : Nat) 5) := by decide +kernel
theorem bc_c {s : Int} (h0 : 0 ≤ s) (h1 : s < 32) : F_J6_bitCount_0f7a4 (I s) = xp (I (cntB s 5)) := by
  obtain ⟨a, rfl⟩ := Int.eq_ofNat_of_zero_le h0
  rw [bc_x, bc_t a (by omega)]
theorem xl_inv {σ : Type} {c : σ → QX Bool} {b : σ → QX σ} (f : Nat → σ) (P : Nat → QM → Prop) (N : Nat) (hb : ∀ j m, j < N → P j m → c (f j) m = some (.ok true, m) ∧ ∃ m', b (f j) m = some (.ok (f (j + 1)), m') ∧ P (j + 1) m') (he : ∀ m, P N m → c (f N) m = some (.ok false, m)) : ∀ n k m, k ≤ N → N - k < n → P k m → ∃ m', xl n c b (f k) m = some (.ok (f N), m') ∧ P N m' := by
  intro n
  induction n with
  | zero => intro k m _ h; exact absurd h (Nat.not_lt_zero _)
  | succ n ih =>
    intro k m hk hn hP
    unfold xl
    by_cases e : k = N
    · subst e
      exact ⟨m, by rw [xb_ok (he m hP)]; rfl, hP⟩
    · obtain ⟨h1, m', h2, h3⟩ := hb k m (by omega) hP
      obtain ⟨m2, g1, g2⟩ := ih (k + 1) m' (by omega) (by omega) h3
      refine ⟨m2, ?_, g2⟩
      rw [xb_ok h1]
      show xb (b (f k)) (fun s' => xl n c b s') m = _
      rw [xb_ok h2]; exact g1
section C28
variable {sv : Nat} {G G' : GM} {S S' : MS} {m m' M W : QM} {t : Int} {i : Int}
theorem CR.set6 {x : Int} (h : CR sv G S m) (h0 : 0 ≤ i) (h1 : i < mf S 3) : CR sv G (seta S 6 i x) (sfi m 68 (am G i) (I x)) := by
  have hmi := h.mt i h0 h1
  have n : ∀ {f b : Nat}, f ≠ 68 → qfi (sfi m 68 (am G i) (I x)) f b = qfi m f b := fun q => fi_n q
  have im : IMM sv m (sfi m 68 (am G i) (I x)) := ⟨Nat.le_refl _, fun _ _ _ => rfl, fun f b x _ _ => n (by omega), fun _ _ _ _ _ => rfl, fun _ _ _ _ _ => rfl, fun _ _ _ => rfl⟩
  have em : EM (seta S 6 i x) S := ⟨fun J a b => seta_ne (by omega), rfl⟩
  have sx : ∀ v, SV (seta S 6 i x) S v := fun v => SV.ex (EX.seta S 6 i x) (Or.inl (by decide)) v
  refine ⟨h.cf, (n (by decide)).trans h.f4, (n (by decide)).trans h.f5, (n (by decide)).trans h.f6, fun z x y => (n (by decide)).trans (h.z0 z x y), fun z x y => (n (by decide)).trans (h.z1 z x y), fun z x y w => (n (by decide)).trans (h.z2 z x y w), fun p x y => (n (by decide)).trans (h.p0 p x y), fun p x y => (n (by decide)).trans (h.p1 p x y), h.pe, fun j u y => ?_, h.mi, fun l u y => ?_, h.gi⟩
  · have hm := h.mt j u y
    by_cases e : j = i
    · subst e
      refine ⟨hm.lo, hm.hi, hm.pl, hm.ty, (n (by decide)).trans hm.f0, (n (by decide)).trans hm.f1, hm.f2, hm.f3, ?_, hm.f5, hm.f6, hm.t5, hm.t6, hm.t7, hm.t8, hm.t9, hm.r6, hm.r8, (hm.now.fr im).to (sx _), hm.cn, fun p a b z => ⟨(hm.cs p a b z).1, ((hm.cs p a b z).2.fr im).to (sx _)⟩, fun p d a b z w => by rw [kept_cg em]; exact hm.kn p d a b z w, fun p d a b z w => by rw [ownb_cg em]; exact hm.ow p d a b z w⟩
      show qfi (sfi m 68 (am G j) (I x)) 68 (am G j) = I (if 6 = 6 ∧ j = j then x else ma S 6 j)
      rw [if_pos ⟨rfl, rfl⟩]; exact fi_s
    · have spc : am G i + 10 ≤ am G j ∨ am G j + 10 ≤ am G i := by
        rcases Int.lt_or_lt_of_ne e with q | q
        · exact Or.inr (h.mi j i u q h1)
        · exact Or.inl (h.mi i j h0 q y)
      refine hm.fr im (fun b w v => ⟨rfl, fun f _ => ⟨fi_a (by omega), rfl⟩, rfl⟩) rfl rfl rfl (fun _ _ _ => rfl) rfl rfl (if_neg (fun z => e z.2)) (fun _ _ _ => rfl) (sx _) (fun _ _ _ _ => sx _) (fun p d _ _ _ _ => by rw [kept_cg em]) (fun p d _ _ _ _ => by rw [ownb_cg em])
  · have hg := h.mg l u y
    refine hg.fr im rfl (fun f _ => ⟨fi_a (fun q => ?_), rfl⟩) rfl rfl rfl rfl (fun J a b => by rw [em.1 J a b]) (fun _ => sx _)
    have h1 := hg.ty
    rw [q, hmi.ty] at h1
    exact absurd h1 (by decide)
theorem OUTR.e3s {α : Type} {x : QX α} {a b c : Bool} {v : α} {S1 : MS} (h : CR sv G S m) (sc : SC sv m m') (g : a = true) (g2 : b = true) (g3 : ¬ c = true) (e : x m = some (.error 3, m')) : OUTR sv x m a b c v S1 S := by
  unfold OUTR
  rw [if_neg (by rw [Bool.eq_false_iff.mpr g3]; simp), rs3_3 g g2 g3]; exact OUT.s h sc e
theorem q_send (h : CR sv G S m) (hs : SI t S) (il : -2147483648 ≤ i) (ih : i < 2147483648) : OUTR sv (F_X6_send sv (I i)) m (gM S i) true (decide (mf S 29 + cntB (sendSet S i) 5 ≤ 150)) (I (cntB (sendSet S i) 5)) (sSend S i) S := by
  have hn := hs.wr.nn
  by_cases g1 : gM S i = true
  · have q := gM_d g1
    have hm := h.mt i q.1 q.2
    have hx := hs.wr.mt q.1 q.2
    have hv := hs.wr.vs hx.2.1.1 hx.2.1.2
    have hss := sendSet_r (i := i) hs.wr
    have hcb := cntB_r (sendSet S i) 5
    obtain ⟨m1, e1, s1⟩ := c_askedOf h hs.wr hs.rp q.1 q.2
    have hC := h.sc s1
    have hm1 := hC.mt i q.1 q.2
    have eset : I (asked S i) ||| I (ma S 18 (ma S 5 i)) ||| I (ma S 6 i) = I (sendSet S i) := by
      unfold sendSet
      rw [if_pos g1, I_or, I_or]
    by_cases g3 : decide (mf S 29 + cntB (sendSet S i) 5 ≤ 150) = true
    · have q3 := of_decide_eq_true g3
      have hf := sSendTo_f (set := sendSet S i) hs.wr hs.fr q.1 q.2 q3
      have hloop := xl_inv (c := fun (s19 : Int32) => xp (decide (s19 < I 5))) (b := fun (s19 : Int32) => xb (F_X6_isIn (I (sendSet S i)) s19) fun v => xb (if decide (¬ v = 0) = true then xb (xgi 1 1 (some (am G i))) fun v29 => xb (xgr 1 2 (some (am G i))) fun v31 => xb (xo 7 (some sv) fun q => F_X6_putRequest q (some (am G i)) v29 s19 v31) fun _ => xp () else xp ()) fun _ => xp (s19 + I 1)) (fun j => I j) (fun j M => ∃ G', CR sv G' (sSendTo S i (sendSet S i) j) M ∧ KP sv m1 M ∧ am G' = am G) 5 (fun j M hj hP => by
        obtain ⟨G', c1, c2, c3⟩ := hP
        obtain ⟨w1, w2, w3, w4, w5, w6, w7⟩ := hf j (by omega)
        refine ⟨by rw [xp_ap, d_lt (by omega) (by omega) (by omega) (by omega), decide_eq_true (by omega)], ?_⟩
        have es : sSendTo S i (sendSet S i) (j + 1) = if hb (sendSet S i) j = true then sReq (sSendTo S i (sendSet S i) j) (ma S 4 i) j i (ma S 5 i) else sSendTo S i (sendSet S i) j := rfl
        rw [c_isIn, xb_xp, b2ne, es]
        by_cases g : hb (sendSet S i) j = true
        · have hM := c1.mt i q.1 (by rw [w4]; exact q.2)
          have cm : cntB (sendSet S i) j + 1 ≤ cntB (sendSet S i) 5 := by
            have z := cntB_mono (sendSet S i) (j + 1) (5 - (j + 1))
            rw [show j + 1 + (5 - (j + 1)) = 5 by omega] at z
            have y : cntB (sendSet S i) (j + 1) = cntB (sendSet S i) j + (if hb (sendSet S i) j = true then 1 else 0) := rfl
            rw [if_pos g] at y
            omega
          have hnow := hM.now
          rw [w7] at hnow
          obtain ⟨M', p1, p2, p3, p4⟩ := c_putRequest (f := ma S 4 i) (r := j) (i := i) c1 w1 w2 (by omega) hnow q.1 (by rw [w4]; exact q.2)
          have ea : am G' i = am G i := by rw [c3]
          have y0 := hM.ty
          have y1 := hM.f1
          have y2 := hM.f2
          rw [w6] at y1
          rw [ea] at y0 y1 y2 p1
          refine ⟨M', ?_, gap G' (mf (sSendTo S i (sendSet S i) j) 29) (qtop M) (an G' i), by rw [if_pos g]; exact p2, c2.trans p3, c3⟩
          rw [if_pos g]
          simp only [xb_xp, xb_as]
          rw [xb_ok (x_gi rfl y0 y1), xb_ok (x_gr rfl y0 y2), os_b c1.cf, xb_ok p1, xp_ap, I_add]; rfl
        · refine ⟨M, ?_, G', by rw [if_neg g]; exact c1, c2, c3⟩
          rw [if_neg g, xb_xp, xp_ap, I_add]; rfl) (fun M hP => by rw [xp_ap, d_lt (by omega) (by omega) (by omega) (by omega), decide_eq_false (by omega)]) 6 0 m1 (by decide) (by decide) ⟨G, hC, KP.refl _ _, rfl⟩
      obtain ⟨M, l1, G', l2, l3, l4⟩ := hloop
      obtain ⟨w1, w2, w3, w4, w5, w6, w7⟩ := hf 5 (by decide)
      have ea : am G' i = am G i := by rw [l4]
      have hM := l2.mt i q.1 (by rw [w4]; exact q.2)
      have y0 := hM.ty
      rw [ea] at y0
      have hE := l2.set6 (i := i) (x := sendSet S i) q.1 (by rw [w4]; exact q.2)
      rw [ea] at hE
      refine OUTR.ok g1 rfl g3 ⟨G', sfi M 68 (am G i) (I (sendSet S i)), ?_, hE, s1.kp.trans (l3.trans ⟨Nat.le_refl _, fun b x y => ⟨rfl, fun f => fi_a (by have := hm.lo; omega), fun f => rfl, rfl, rfl⟩⟩)⟩
      unfold F_X6_send
      simp only [xb_xp, xb_as]
      rw [os_b h.cf, xb_need (c_meetingNumbered h hs.wr il ih), if_pos g1, os_b h.cf, xb_ok e1, ym2 hm1, yv15 hm1.now, ym4 hm1, eset, bc_c hss.1 hss.2, xb_xp, os_b hC.cf, xb_need (c_needRoom hC hs.wr hcb.1 (by omega)), if_pos g3]
      refine Eq.trans (xb_ok l1) ?_
      rw [xb_ok (x_si rfl y0), xp_ap]
    · refine OUTR.e3s h s1 g1 rfl g3 ?_
      unfold F_X6_send
      simp only [xb_xp, xb_as]
      rw [os_b h.cf, xb_need (c_meetingNumbered h hs.wr il ih), if_pos g1, os_b h.cf, xb_ok e1, ym2 hm1, yv15 hm1.now, ym4 hm1, eset, bc_c hss.1 hss.2, xb_xp, os_b hC.cf, xb_need (c_needRoom hC hs.wr hcb.1 (by omega)), if_neg g3]
  · refine OUTR.e1 h g1 ?_
    unfold F_X6_send
    simp only [xb_xp, xb_as]
    rw [os_b h.cf, xb_need (c_meetingNumbered h hs.wr il ih), if_neg g1]
end C28
