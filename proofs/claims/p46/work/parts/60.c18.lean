theorem datR_cg {ri ri' : Nat → Int} {rl rl' : Nat → Int64} (h11 : ri' 11 = ri 11) (h14 : ri' 14 = ri 14) (h15 : ri' 15 = ri 15) (h16 : ri' 16 = ri 16) (l20 : rl' 20 = rl 20) (l21 : rl' 21 = rl 21) : datR ri' rl' = datR ri rl := by
  have H : ∀ j : Nat, dfR ri' rl' j = dfR ri rl j := by
    intro j
    induction j with
    | zero => show (0, rl' 20) = (0, rl 20); rw [l20]
    | succ j ih =>
      show (if ruR ri' j = true ∧ (dfR ri' rl' j).1 < ri' 16 then ((dfR ri' rl' j).1 + 1, if hl (rl' 21) j = true then (dfR ri' rl' j).2 else (dfR ri' rl' j).2 ||| bitL j) else dfR ri' rl' j) = (if ruR ri j = true ∧ (dfR ri rl j).1 < ri 16 then ((dfR ri rl j).1 + 1, if hl (rl 21) j = true then (dfR ri rl j).2 else (dfR ri rl j).2 ||| bitL j) else dfR ri rl j)
      rw [ih, h16, l21, show ruR ri' j = ruR ri j from by unfold ruR; rw [h11, h14, h15]]
  unfold datR
  rw [H]
theorem dts_X {S : MS} {i : Int} {ri : Nat → Int} {rl : Nat → Int64} {rd : Int → Int} : dts (XV S i ri rl rd) (toOf S i) = datR ri rl := by
  rw [dts_R]
  exact datR_cg (ma_XV (by decide)) (ma_XV (by decide)) (ma_XV (by decide)) (ma_XV (by decide)) (ml_XV (by decide)) (ml_XV (by decide))
def SH0 (S : MS) (i : Int) (ri : Nat → Int) (rl : Nat → Int64) (rd : Int → Int) : MS := seta (setl (XV S i ri rl rd) 23 (toOf S i) (dts (XV S i ri rl rd) (toOf S i))) 5 i (toOf S i)
theorem hold_SH0 (S : MS) (i : Int) (ri : Nat → Int) (rl : Nat → Int64) (rd : Int → Int) : sHold (XV S i ri rl rd) i (toOf S i) = sMarks (SH0 S i ri rl rd) (ma S 4 i) i := rfl
section C18
variable {sv : Nat} {G : GM} {S : MS} {m M : QM} {t : Int} {i : Int} {ri : Nat → Int} {rl RL : Nat → Int64} {rd : Int → Int} {a' : Nat}
theorem sh_a {J : Nat} (y : Int) (h : J ≠ 5 ∧ (J < 9 ∨ (19 < J ∧ J ≠ 24))) : ma (SH0 S i ri rl rd) J y = ma S J y := by
  show (if J = 5 ∧ y = i then toOf S i else (if (9 ≤ J ∧ J ≤ 19) ∧ y = toOf S i then ri J else if J = 24 ∧ 60 * toOf S i ≤ y ∧ y < 60 * toOf S i + 60 then rd (y - 60 * toOf S i) else ma S J y)) = _
  rw [if_neg (by omega), if_neg (by omega), if_neg (by omega)]
theorem sh_5 (y : Int) : ma (SH0 S i ri rl rd) 5 y = if y = i then toOf S i else ma S 5 y := by
  show (if 5 = 5 ∧ y = i then toOf S i else (if (9 ≤ 5 ∧ 5 ≤ 19) ∧ y = toOf S i then ri 5 else if 5 = 24 ∧ 60 * toOf S i ≤ y ∧ y < 60 * toOf S i + 60 then rd (y - 60 * toOf S i) else ma S 5 y)) = _
  by_cases c : y = i
  · rw [if_pos ⟨rfl, c⟩, if_pos c]
  · rw [if_neg (fun z => c z.2), if_neg c, if_neg (by omega), if_neg (by omega)]
theorem sh_f {J : Nat} (h : J ≠ 7) : mf (SH0 S i ri rl rd) J = mf S J := if_neg h
theorem sh_sv {u : Int} (h : u ≠ toOf S i) : SV (SH0 S i ri rl rd) S u := by
  refine ⟨fun J a b => ?_, fun J a b => ?_, fun d a b => ?_⟩
  · show (if J = 5 ∧ u = i then toOf S i else (if (9 ≤ J ∧ J ≤ 19) ∧ u = toOf S i then ri J else if J = 24 ∧ 60 * toOf S i ≤ u ∧ u < 60 * toOf S i + 60 then rd (u - 60 * toOf S i) else ma S J u)) = _
    rw [if_neg (by omega), if_neg (fun z => h z.2), if_neg (by omega)]
  · show (if J = 23 ∧ u = toOf S i then dts (XV S i ri rl rd) (toOf S i) else (if (20 ≤ J ∧ J ≤ 22) ∧ u = toOf S i then rl J else ml S J u)) = _
    rw [if_neg (fun z => h z.2), if_neg (fun z => h z.2)]
  · show (if 24 = 5 ∧ 60 * u + d = i then toOf S i else (if (9 ≤ 24 ∧ 24 ≤ 19) ∧ 60 * u + d = toOf S i then ri 24 else if 24 = 24 ∧ 60 * toOf S i ≤ 60 * u + d ∧ 60 * u + d < 60 * toOf S i + 60 then rd (60 * u + d - 60 * toOf S i) else ma S 24 (60 * u + d))) = _
    rw [if_neg (by omega), if_neg (by omega), if_neg (by omega)]
theorem sh_own : (∀ J, 9 ≤ J → J ≤ 19 → ma (SH0 S i ri rl rd) J (toOf S i) = ri J) ∧ (∀ J, 20 ≤ J → J ≤ 22 → ml (SH0 S i ri rl rd) J (toOf S i) = rl J) ∧ ml (SH0 S i ri rl rd) 23 (toOf S i) = datR ri rl ∧ ∀ d, 0 ≤ d → d < 60 → ma (SH0 S i ri rl rd) 24 (60 * toOf S i + d) = rd d := by
  refine ⟨fun J a b => ?_, fun J a b => ?_, ?_, fun d a b => ?_⟩
  · show (if J = 5 ∧ toOf S i = i then toOf S i else (if (9 ≤ J ∧ J ≤ 19) ∧ toOf S i = toOf S i then ri J else _)) = _
    rw [if_neg (by omega), if_pos ⟨⟨a, b⟩, rfl⟩]
  · show (if J = 23 ∧ toOf S i = toOf S i then dts (XV S i ri rl rd) (toOf S i) else (if (20 ≤ J ∧ J ≤ 22) ∧ toOf S i = toOf S i then rl J else ml S J (toOf S i))) = _
    rw [if_neg (by omega), if_pos ⟨⟨a, b⟩, rfl⟩]
  · show (if 23 = 23 ∧ toOf S i = toOf S i then dts (XV S i ri rl rd) (toOf S i) else _) = _
    rw [if_pos ⟨rfl, rfl⟩, dts_X]
  · show (if 24 = 5 ∧ 60 * toOf S i + d = i then toOf S i else (if (9 ≤ 24 ∧ 24 ≤ 19) ∧ 60 * toOf S i + d = toOf S i then ri 24 else if 24 = 24 ∧ 60 * toOf S i ≤ 60 * toOf S i + d ∧ 60 * toOf S i + d < 60 * toOf S i + 60 then rd (60 * toOf S i + d - 60 * toOf S i) else _)) = _
    rw [if_neg (by omega), if_neg (by omega), if_pos (by omega), show 60 * toOf S i + d - 60 * toOf S i = d by omega]
theorem to_ne (hs : SI t S) (hi : 0 ≤ i) (hi' : i < mf S 3) : (∀ j, 0 ≤ j → j < mf S 3 → j ≠ i → ma S 5 j ≠ toOf S i) ∧ (∀ p j, 0 ≤ p → p < 5 → 0 ≤ j → j < mf S 3 → ma S 25 (8 * p + j) ≠ -1 → ma S 25 (8 * p + j) ≠ toOf S i) ∧ ∀ k, 0 ≤ k → k < mf S 29 → ma S 31 k = 0 → ma S 35 k ≠ toOf S i := by
  have hn := hs.wr.nn
  obtain ⟨n1, n2, n3, n4, n5⟩ := hs.nv
  unfold toOf
  by_cases c : ma S 8 (ma S 5 i) = 0
  · simp only [if_pos c]
    refine ⟨fun j a b d => n1 j i a b hi hi' d, fun p j a b x y z e => ?_, fun k a b x e => ?_⟩
    · rcases n2 p j a b x y with q | q
      · exact z q
      · rw [e] at q; omega
    · have := (n3 k a b x).2
      rw [e] at this; omega
  · simp only [if_neg c]
    refine ⟨fun j a b d => ?_, fun p j a b x y z e => ?_, fun k a b x e => ?_⟩
    · have := hs.wr.mt a b; omega
    · have := hs.wr.cp a b x (show j < 8 by omega); omega
    · have := hs.wr.ms a b; omega
def gan (G : GM) (i : Int) (a : Nat) : GM := (G.1, (fun j => if j = i then a else G.2.1 j), G.2.2)
theorem CR.put (h : CR sv G S M) (hs : SI t S) (hi : 0 ≤ i) (hi' : i < mf S 3) (hv : VR sv M a' ri RL rd) (hl : ∀ J, 20 ≤ J → J ≤ 22 → RL J = rl J) (hd : RL 23 = datR ri rl) : CR sv (gan G i a') (SH0 S i ri rl rd) (sfr M 66 (am G i) (some a')) := by
  have hm := h.mt i hi hi'
  have ne := to_ne hs hi hi'
  have em : EM (SH0 S i ri rl rd) S := ⟨fun J a b => funext fun y => sh_a y (by omega), sh_f (by decide)⟩
  have im : IMM sv M (sfr M 66 (am G i) (some a')) := ⟨Nat.le_refl _, fun _ _ _ => rfl, fun _ _ _ _ _ => rfl, fun _ _ _ _ _ => rfl, fun f b x _ _ => fr_n (by omega), fun _ _ _ => rfl⟩
  have rf : ∀ {f b : Nat}, f ≠ 66 → qfr (sfr M 66 (am G i) (some a')) f b = qfr M f b := fun q => fr_n q
  have ra : ∀ {f b : Nat}, b ≠ am G i → qfr (sfr M 66 (am G i) (some a')) f b = qfr M f b := fun q => fr_a q
  have n3 : mf (SH0 S i ri rl rd) 3 = mf S 3 := sh_f (by decide)
  have n29 : mf (SH0 S i ri rl rd) 29 = mf S 29 := sh_f (by decide)
  have cf := h.cf
  have ow := sh_own (S := S) (i := i) (ri := ri) (rl := rl) (rd := rd)
  refine ⟨⟨cf.ty, (rf (by decide)).trans cf.f0, (rf (by decide)).trans cf.f1, (rf (by decide)).trans cf.f2, (rf (by decide)).trans cf.f3, (rf (by decide)).trans cf.f7, (rf (by decide)).trans cf.f8, cf.t1, cf.t2, cf.t3, cf.t4, cf.t5, cf.t6, cf.zr, cf.zt, cf.pr, cf.pt, fun p x y => (rf (by decide)).trans (cf.pf p x y), cf.pe, cf.top⟩,
    by rw [n3]; exact h.f4, by rw [n29]; exact h.f5, by rw [sh_f (by decide)]; exact h.f6, fun z x y => by rw [sh_a z (by decide)]; exact h.z0 z x y, fun z x y => by rw [sh_a z (by decide)]; exact h.z1 z x y, fun z x y w => by rw [sh_a z (by decide)] at w ⊢; exact h.z2 z x y w,
    fun p x y => by rw [sh_a p (by decide)]; exact h.p0 p x y, fun p x y => by rw [sh_a p (by decide)]; exact h.p1 p x y, fun p j x y z w => by rw [sh_a _ (by decide)]; exact h.pe p j x y z w, fun j x y => ?_, fun j k x y z => h.mi j k x y (by rw [n3] at z; exact z), fun k x y => ?_, fun k l x y z => h.gi k l x y (by rw [n29] at z; exact z)⟩
  · rw [n3] at y
    by_cases e : j = i
    · subst e
      refine ⟨hm.lo, hm.hi, hm.pl, hm.ty, hm.f0, by rw [sh_a _ (by decide)]; exact hm.f1, ?_, (rf (by decide)).trans hm.f3, by rw [sh_a _ (by decide)]; exact hm.f4, (rf (by decide)).trans hm.f5, (rf (by decide)).trans hm.f6, hm.t5, hm.t6, hm.t7, hm.t8, hm.t9, (rf (by decide)).trans hm.r6, (rf (by decide)).trans hm.r8, ?_, fun p a b z => ?_, fun p a b z => ?_, fun p d a b z w => ?_, fun p d a b z w => ?_⟩
      · show qfr (sfr M 66 (am G j) (some a')) 66 (am G j) = some (if j = j then a' else an G j)
        rw [if_pos rfl]; exact fr_s
      · show VS sv _ (if j = j then a' else an G j) _ (ma (SH0 S j ri rl rd) 5 j)
        rw [if_pos rfl, sh_5, if_pos rfl]
        refine (hv.fr im).congr ow.1 (fun J a b => ?_) ow.2.2.2
        by_cases q : J = 23
        · subst q; exact ow.2.2.1.trans hd.symm
        · exact (ow.2.1 J a (by omega)).trans (hl J a (by omega)).symm
      · rw [sh_a _ (by decide)] at z; exact hm.cn p a b z
      · rw [sh_a _ (by decide)] at z ⊢
        exact ⟨(hm.cs p a b z).1, ((hm.cs p a b z).2.fr im).to (sh_sv (ne.2.1 p j a b hi hi' z))⟩
      · rw [kept_cg em]; exact hm.kn p d a b z w
      · rw [ownb_cg em]; exact hm.ow p d a b z w
    · have hj := h.mt j x y
      have spc : am G i + 10 ≤ am G j ∨ am G j + 10 ≤ am G i := by
        rcases Int.lt_or_lt_of_ne e with q | q
        · exact Or.inr (h.mi j i x q hi')
        · exact Or.inl (h.mi i j hi q y)
      refine hj.fr im (fun b u v => ⟨rfl, fun f _ => ⟨rfl, ra (by omega)⟩, rfl⟩) rfl rfl (if_neg e) (fun _ _ _ => rfl) (sh_a _ (by decide)) ?_ (sh_a _ (by decide)) (fun _ _ _ => sh_a _ (by decide)) (sh_sv (ne.1 j x y e)) (fun p a b z => sh_sv (ne.2.1 p j a b x y z)) (fun p d _ _ _ _ => by rw [kept_cg em]; rfl) (fun p d _ _ _ _ => by rw [ownb_cg em]; rfl)
      rw [sh_5, if_neg e]
  · rw [n29] at y
    have hg := h.mg k x y
    have hk := hs.wr.ms x y
    refine hg.fr im rfl (fun f _ => ⟨rfl, ra (fun q => ?_)⟩) rfl rfl rfl rfl (fun J a b => sh_a _ (by omega)) (fun z => sh_sv (ne.2.2 k x y z))
    have h1 := hg.ty
    rw [q, hm.ty] at h1
    exact absurd h1 (by decide)
theorem SI.hi (hs : SI t S) (hi : 0 ≤ i) (hi' : i < mf S 3) : 0 ≤ toOf S i ∧ toOf S i ≤ mf S 7 := ⟨(toOf_r hs.wr hi hi').1, (toOf_r hs.wr hi hi').2.1⟩
theorem wr_SH0 (hs : SI t S) (ht : t + 2 ≤ 600) (hi : 0 ≤ i) (hi' : i < mf S 3) (hnv : toOf S i < 158) (hr : OKR (t + 1) ri rd) : WR (t + 1) (SH0 S i ri rl rd) := by
  have hw := wr_XV (rl := rl) hs.wr (by omega) hs.fr hi hi' hnv hr
  have hto := toOf_r hs.wr hi hi'
  have hm := hs.wr.mt hi hi'
  have ho : toOf S i < mf (XV S i ri rl rd) 7 := by
    show toOf S i < (if ma S 8 (ma S 5 i) = 0 then mf S 7 else mf S 7 + 1)
    split <;> omega
  exact wr_now (S := setl (XV S i ri rl rd) 23 (toOf S i) (dts (XV S i ri rl rd) (toOf S i))) hw hi hi' hto.1 ho
theorem c_putVersion (h : CR sv G S M) (hs : SI t S) (ht : t + 2 ≤ 600) (hi : 0 ≤ i) (hi' : i < mf S 3) (hnv : toOf S i < 158) (hr : OKR (t + 1) ri rd) (ho : hb (ri 18) (ma S 4 i) = false) (hv : VR sv M a' ri RL rd) (hl : ∀ J, 20 ≤ J → J ≤ 22 → RL J = rl J) (hd : RL 23 = datR ri rl) :
    ∃ G' m', F_X6_putVersion sv (some (am G i)) (some a') M = some (.ok (I (ri 9)), m') ∧ CR sv G' (sHold (XV S i ri rl rd) i (toOf S i)) m' ∧ KP sv M m' := by
  have hm := h.mt i hi hi'
  have hx := hs.wr.mt hi hi'
  have hC := h.put hs hi hi' hv hl hd
  have hW := wr_SH0 (rl := rl) hs ht hi hi' hnv hr
  have hL : LO (SH0 S i ri rl rd) := fun j x y => by
    rw [sh_f (by decide)] at y
    rw [sh_5, show ma (SH0 S i ri rl rd) 4 j = ma S 4 j from sh_a _ (by decide)]
    by_cases e : j = i
    · subst e
      rw [if_pos rfl, sh_own.1 18 (by decide) (by decide)]; exact ho
    · rw [if_neg e, (sh_sv ((to_ne hs hi hi').1 j x y e)).1 18 (by decide) (by decide)]; exact hs.lo j x y
  have hC' := hC.mt i hi (by rw [sh_f (by decide)]; exact hi')
  obtain ⟨m', e1, e2, e3⟩ := c_markEntry (p := ma S 4 i) (i := i) hC hW (by omega) hL hx.1.1 hx.1.2 hi (by rw [sh_f (by decide)]; exact hi')
  refine ⟨gan G i a', m', ?_, by rw [hold_SH0]; exact e2, ?_⟩
  · have o1 : xgi 1 1 (some (am G i)) (sfr M 66 (am G i) (some a')) = some (.ok (I (ma S 4 i)), sfr M 66 (am G i) (some a')) := x_gi rfl hm.ty hm.f1
    have v1 : VR sv m' a' ri RL rd := by
      have im : IMM sv M (sfr M 66 (am G i) (some a')) := ⟨Nat.le_refl _, fun _ _ _ => rfl, fun _ _ _ _ _ => rfl, fun _ _ _ _ _ => rfl, fun f b x _ _ => fr_n (by omega), fun _ _ _ => rfl⟩
      exact (hv.fr im).fr e3.imm
    unfold F_X6_putVersion
    simp only [xb_xp, xb_as]
    rw [xb_ok (x_sr (f := 66) rfl hm.ty), xb_ok o1, os_b hC.cf]
    rw [show F_X6_markEntry sv (I (ma S 4 i)) (some (am G i)) = F_X6_markEntry sv (I (ma S 4 i)) (some (am (gan G i a') i)) from rfl, xb_ok e1, x_gi rfl v1.ty v1.f0]
  · refine KP.trans ?_ e3.kp
    exact ⟨Nat.le_refl _, fun b x y => ⟨rfl, fun _ => rfl, fun f => fr_a (by have := hm.lo; omega), rfl, rfl⟩⟩
end C18
