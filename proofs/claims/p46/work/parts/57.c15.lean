theorem fi_fr {m : QM} {f a g b : Nat} {x : Option Nat} : qfi (sfr m f a x) g b = qfi m g b := id rfl
theorem fi_fl {m : QM} {f a g b : Nat} {x : Int64} : qfi (sfl m f a x) g b = qfi m g b := id rfl
theorem fl_fi {m : QM} {f a g b : Nat} {x : Int32} : qfl (sfi m f a x) g b = qfl m g b := id rfl
theorem fl_fr {m : QM} {f a g b : Nat} {x : Option Nat} : qfl (sfr m f a x) g b = qfl m g b := id rfl
theorem fr_fi {m : QM} {f a g b : Nat} {x : Int32} : qfr (sfi m f a x) g b = qfr m g b := id rfl
theorem fr_fl {m : QM} {f a g b : Nat} {x : Int64} : qfr (sfl m f a x) g b = qfr m g b := id rfl
section C15
variable {m M : QM} {sv : Nat} {a : Nat} {ri : Nat → Int} {rl : Nat → Int64} {rd : Int → Int}
theorem c_isDate2 {d : Int} {x : Int64} (ht : qty m a = (1, 5, 0)) (hx : qfl m 330 a = x) (dl : -2147483648 ≤ d) (dh : d < 2147483648) : F_X4_isDate a (I d) m = some (.ok (b2i (gD d && hl x d)), m) := by
  unfold F_X4_isDate
  simp only [xb_xp, xb_as]
  rw [c_isDay dl dh, xb_xp, b2ne]
  rw [xb_ok (xif_and (b := hl x d) (fun _ => by rw [xb_ok (x_gl rfl ht hx), xp_ap]; rfl))]
  rw [xz_ok]
def drw (x : Int64) : Nat → Nat → Int32
  | 0 => fun _ => 0
  | j + 1 => if hl x j = true then va_up (drw x j) (cnt (hl x) j).toNat (I j) else drw x j
theorem drw_get {x : Int64} : ∀ n : Nat, n ≤ 60 → ∀ k : Int, 0 ≤ k → k < cnt (hl x) n → drw x n k.toNat = I (nth (hl x) k 60) := by
  intro n
  induction n with
  | zero => exact fun _ k a b => absurd b (by show ¬ k < 0; omega)
  | succ n ih =>
    intro hn k k0 k1
    have e1 : cnt (hl x) (n + 1) = cnt (hl x) n + (if hl x n = true then 1 else 0) := rfl
    have e2 : drw x (n + 1) = if hl x n = true then va_up (drw x n) (cnt (hl x) n).toNat (I n) else drw x n := rfl
    have cr := cnt_r (hl x) n
    rw [e2]
    by_cases c : hl x n = true
    · rw [if_pos c] at e1 ⊢
      by_cases q : k = cnt (hl x) n
      · subst q
        have hN := nth_at c (60 - (n + 1))
        rw [show n + 1 + (60 - (n + 1)) = 60 by omega] at hN
        rw [va_up_same, hN]
      · rw [va_up_diff _ _ (by omega)]
        exact ih (by omega) k k0 (by omega)
    · rw [if_neg c] at e1 ⊢
      exact ih (by omega) k k0 (by omega)
def FDM (M : QM) (a : Nat) (x : Int64) : QM := sfr (sfl (qnewi M 0 (cnt (hl x) 60).toNat (drw x 60)) 330 a x) 331 a (some (qtop M))
theorem c_fdm (hle : a < qtop M) (hty : qty M a = (1, 5, 0)) (h2 : qfi M 322 a = I (ri 11)) (h5 : qfi M 325 a = I (ri 14)) (h6 : qfi M 326 a = I (ri 15)) (h7 : qfi M 327 a = I (ri 16)) (h8 : qfl M 328 a = rl 20) (h9 : qfl M 329 a = rl 21) (hb : RB ri) (h20 : LB (rl 20)) : F_X4_findDates a M = some (.ok (), FDM M a (datR ri rl)) := by
  have hlb := datR_lb ri rl h20
  have cr := cnt_r (hl (datR ri rl)) 60
  unfold F_X4_findDates
  simp only [xb_xp, xb_as]
  have hd := c_daysOfRule (m := M) (a := a) (ri := ri) ⟨hty, h2, h5, h6, h7⟩ hb
  rw [xb_ok (x_gl rfl hty h8), xb_xo hty, xb_ok hd, xb_ok (x_gl rfl hty h9), datR_eq ri rl h20, xb_ok (x_sl rfl hty)]
  have hx : qfl (sfl M 330 a (datR ri rl)) 330 a = datR ri rl := fl_s
  have htA : qty (sfl M 330 a (datR ri rl)) a = (1, 5, 0) := hty
  rw [xb_ok (x_gl rfl htA hx), c_bitCount hlb, xb_xp, xb_ok (x_newi cr.1 (by omega) (by decide))]
  have hrun := xl_run (c := fun (s18 : Int32 × Int32) => xp (decide (s18.2 < (60 : Int32)))) (b := fun (s18 : Int32 × Int32) => xb (xo 5 (some a) fun q => F_X4_isDate q s18.2) fun v => xb (if decide (¬ v = 0) = true then xb (xlen (some (qtop M))) fun v26 => xp (decide (s18.1 < v26)) else xp false) fun v => xb (if v = true then xb (xsai (some (qtop M)) s18.1 s18.2) fun _ => xp (s18.1 + 1) else xp s18.1) fun s32 => xp (s32, s18.2 + 1)) (fun j => (I (cnt (hl (datR ri rl)) j), I j)) (fun j => qnewi (sfl M 330 a (datR ri rl)) 0 (cnt (hl (datR ri rl)) 60).toNat (drw (datR ri rl) j)) 60 2000 (fun j hj => by rw [xp_ap, gl60, d_lt (by omega) (by omega) (by omega) (by omega), decide_eq_true (by omega)]) (fun j hj => by
    have crj := cnt_r (hl (datR ri rl)) j
    have hT2 : qty (qnewi (sfl M 330 a (datR ri rl)) 0 (cnt (hl (datR ri rl)) 60).toNat (drw (datR ri rl) j)) a = (1, 5, 0) := (va_up_diff _ _ (by show ¬ a = qtop M; omega)).trans hty
    have hX2 : qfl (qnewi (sfl M 330 a (datR ri rl)) 0 (cnt (hl (datR ri rl)) 60).toNat (drw (datR ri rl) j)) 330 a = datR ri rl := fl_s (m := M) (f := 330) (a := a) (x := datR ri rl)
    have hN : qty (qnewi (sfl M 330 a (datR ri rl)) 0 (cnt (hl (datR ri rl)) 60).toNat (drw (datR ri rl) j)) (qtop M) = (2, 0, (cnt (hl (datR ri rl)) 60).toNat) := new_ty (sfl M 330 a (datR ri rl)) _ _ _
    rw [xb_xo hT2, xb_ok (c_isDate2 hT2 hX2 (by omega) (by omega)), show gD (j : Int) = true from decide_eq_true (by omega), Bool.true_and, b2ne]
    have e1 : cnt (hl (datR ri rl)) (j + 1) = cnt (hl (datR ri rl)) j + (if hl (datR ri rl) j = true then 1 else 0) := rfl
    have e2 : drw (datR ri rl) (j + 1) = if hl (datR ri rl) j = true then va_up (drw (datR ri rl) j) (cnt (hl (datR ri rl)) j).toNat (I j) else drw (datR ri rl) j := rfl
    by_cases c : hl (datR ri rl) j = true
    · have hlt : cnt (hl (datR ri rl)) j < cnt (hl (datR ri rl)) 60 := by
        have m1 := cnt_mono (hl (datR ri rl)) (j + 1) (60 - (j + 1))
        rw [show j + 1 + (60 - (j + 1)) = 60 by omega, e1, if_pos c] at m1
        omega
      rw [c, if_pos rfl, xb_as, xb_ok (x_len hN (by decide)), xb_xp, d_lt (by omega) (by omega) (by omega) (by omega), decide_eq_true (by omega), if_pos rfl, xb_as, xb_ok (x_sai hN (by omega) crj.1 (by omega)), xb_xp, xp_ap, e1, e2, if_pos c, if_pos c, gl1, I_add, I_add]
      have : sai (qnewi (sfl M 330 a (datR ri rl)) 0 (cnt (hl (datR ri rl)) 60).toNat (drw (datR ri rl) j)) (qtop M) (cnt (hl (datR ri rl)) j).toNat (I j) = qnewi (sfl M 330 a (datR ri rl)) 0 (cnt (hl (datR ri rl)) 60).toNat (va_up (drw (datR ri rl) j) (cnt (hl (datR ri rl)) j).toNat (I j)) := sai_new (sfl M 330 a (datR ri rl)) _ _ _ _ _
      rw [this]; rfl
    · rw [if_neg c, xb_xp, if_neg (by decide), xb_xp, xp_ap, e1, e2, if_neg c, if_neg c, Int.add_zero, gl1, I_add]; rfl) (by rw [xp_ap, gl60, d_lt (by omega) (by omega) (by omega) (by omega), decide_eq_false (by omega)]) (by decide)
  refine Eq.trans (xb_ok hrun) ?_
  have hT3 : qty (qnewi (sfl M 330 a (datR ri rl)) 0 (cnt (hl (datR ri rl)) 60).toNat (drw (datR ri rl) 60)) a = (1, 5, 0) := (va_up_diff _ _ (by show ¬ a = qtop M; omega)).trans hty
  rw [xb_ok (x_sr rfl hT3)]; rfl
theorem DR_new {x : Int64} (ht : sv + 23 ≤ qtop M) : DR sv (qnewi M 0 (cnt (hl x) 60).toNat (drw x 60)) (qtop M) x :=
  ⟨⟨ht, Nat.lt_succ_self _⟩, new_ty _ _ _ _, fun j u v => by rw [new_ai]; exact drw_get 60 (Nat.le_refl _) j u v⟩
theorem c_findDates (h : MK sv m M a ri rl rd) (ht : sv + 23 ≤ qtop m) (hb : RB ri) (h20 : LB (rl 20)) : ∃ M', F_X4_findDates a M = some (.ok (), M') ∧ MK sv m M' a ri (updl rl 23 (datR ri rl)) rd := by
  obtain ⟨hv, hg, ha⟩ := h
  exact ⟨FDM M a (datR ri rl), c_fdm hv.hi hv.ty hv.f2 hv.f5 hv.f6 hv.f7 hv.f8 hv.f9 hb h20, (hv.newI (t := 0) (n := (cnt (hl (datR ri rl)) 60).toNat) (w := drw (datR ri rl) 60)).wdr (DR_new (Nat.le_trans ht hg.top)), (hg.qnewi.sfl ha).sfr ha, ha⟩
theorem c_init_ {a0 : Nat} (hv : VR sv m a0 ri rl rd) (ht : sv + 23 ≤ qtop m) (h19 : ri 19 = 0 ∨ ri 19 = 1) : ∃ M', F_X4_init_ (qtop m) (some a0) (qnew m 5) = some (.ok (), M') ∧ MK sv m M' (qtop m) (updi ri 9 (ri 9 + 1)) rl rd := by
  have hlt := hv.hi
  have hA : qty (qnew m 5) (qtop m) = (1, 5, 0) := va_up_same _ _ _
  have ha : qty (qnew m 5) a0 = (1, 5, 0) := (va_up_diff _ _ (by omega)).trans hv.ty
  have oi : ∀ f, qfi (qnew m 5) f a0 = qfi m f a0 := fun f => va_up_diff _ _ (by omega)
  have ol : ∀ f, qfl (qnew m 5) f a0 = qfl m f a0 := fun f => va_up_diff _ _ (by omega)
  have or_ : ∀ f, qfr (qnew m 5) f a0 = qfr m f a0 := fun f => va_up_diff _ _ (by omega)
  obtain ⟨b1, p1, q1⟩ := hv.dr
  obtain ⟨b2, p2, q2⟩ := hv.mr
  obtain ⟨b3, p3, q3⟩ := hv.sr
  have ne : ¬ a0 = qtop m := by omega
  have hz : I (ri 19) = 0 ∨ I (ri 19) = 1 := by
    rcases h19 with e | e
    · rw [e]; exact Or.inl (by decide)
    · rw [e]; exact Or.inr (by decide)
  have hG : GROW m (sfi (sfi (sfi (sfr (sfr (sfr (sfl (sfl (sfl (sfi (sfi (sfi (sfi (sfi (sfi (sfr (sfi (sfi (sfi (sfi (qnew m 5) 325 (qtop m) (1)) 326 (qtop m) (127)) 327 (qtop m) (1)) 320 (qtop m) (I (ri 9 + 1))) 321 (qtop m) (some (zA sv (ri 10)))) 322 (qtop m) (I (ri 11))) 323 (qtop m) (I (ri 12))) 324 (qtop m) (I (ri 13))) 325 (qtop m) (I (ri 14))) 326 (qtop m) (I (ri 15))) 327 (qtop m) (I (ri 16))) 328 (qtop m) (rl 20)) 329 (qtop m) (rl 21)) 330 (qtop m) (rl 23)) 331 (qtop m) (some b1)) 332 (qtop m) (some b2)) 333 (qtop m) (some b3)) 334 (qtop m) (I (ri 17))) 335 (qtop m) (I (ri 18))) 336 (qtop m) (I (ri 19))) := by
    repeat' first
      | exact (GROW.refl m).qnew
      | refine GROW.sfi ?_ (Nat.le_refl _)
      | refine GROW.sfr ?_ (Nat.le_refl _)
      | refine GROW.sfl ?_ (Nat.le_refl _)
  refine ⟨sfi (sfi (sfi (sfr (sfr (sfr (sfl (sfl (sfl (sfi (sfi (sfi (sfi (sfi (sfi (sfr (sfi (sfi (sfi (sfi (qnew m 5) 325 (qtop m) (1)) 326 (qtop m) (127)) 327 (qtop m) (1)) 320 (qtop m) (I (ri 9 + 1))) 321 (qtop m) (some (zA sv (ri 10)))) 322 (qtop m) (I (ri 11))) 323 (qtop m) (I (ri 12))) 324 (qtop m) (I (ri 13))) 325 (qtop m) (I (ri 14))) 326 (qtop m) (I (ri 15))) 327 (qtop m) (I (ri 16))) 328 (qtop m) (rl 20)) 329 (qtop m) (rl 21)) 330 (qtop m) (rl 23)) 331 (qtop m) (some b1)) 332 (qtop m) (some b2)) 333 (qtop m) (some b3)) 334 (qtop m) (I (ri 17))) 335 (qtop m) (I (ri 18))) 336 (qtop m) (I (ri 19)), ?_, ?_, hG, Nat.le_refl _⟩
  · unfold F_X4_init_
    simp only [xb_xp, xb_as]
    rw [xb_ok (x_si (v := (1 : Int32)) rfl (by exact hA))]
    rw [xb_ok (x_si (v := (127 : Int32)) rfl (by exact hA))]
    rw [xb_ok (x_si (v := (1 : Int32)) rfl (by exact hA))]
    rw [xb_ok (x_gi (v := I (ri 9)) rfl (by exact ha) (by simp only [fi_a ne, fi_fr, fi_fl]; exact (oi _).trans hv.f0))]
    rw [gl1, I_add]
    rw [xb_ok (x_si (v := I (ri 9 + 1)) rfl (by exact hA))]
    rw [xb_ok (x_gr (v := some (zA sv (ri 10))) rfl (by exact ha) (by simp only [fr_a ne, fr_fi, fr_fl]; exact (or_ _).trans hv.f1))]
    rw [xb_ok (x_sr rfl (by exact hA))]
    rw [xb_ok (x_gi (v := I (ri 11)) rfl (by exact ha) (by simp only [fi_a ne, fi_fr, fi_fl]; exact (oi _).trans hv.f2))]
    rw [xb_ok (x_si rfl (by exact hA))]
    rw [xb_ok (x_gi (v := I (ri 12)) rfl (by exact ha) (by simp only [fi_a ne, fi_fr, fi_fl]; exact (oi _).trans hv.f3))]
    rw [xb_ok (x_si rfl (by exact hA))]
    rw [xb_ok (x_gi (v := I (ri 13)) rfl (by exact ha) (by simp only [fi_a ne, fi_fr, fi_fl]; exact (oi _).trans hv.f4))]
    rw [xb_ok (x_si rfl (by exact hA))]
    rw [xb_ok (x_gi (v := I (ri 14)) rfl (by exact ha) (by simp only [fi_a ne, fi_fr, fi_fl]; exact (oi _).trans hv.f5))]
    rw [xb_ok (x_si rfl (by exact hA))]
    rw [xb_ok (x_gi (v := I (ri 15)) rfl (by exact ha) (by simp only [fi_a ne, fi_fr, fi_fl]; exact (oi _).trans hv.f6))]
    rw [xb_ok (x_si rfl (by exact hA))]
    rw [xb_ok (x_gi (v := I (ri 16)) rfl (by exact ha) (by simp only [fi_a ne, fi_fr, fi_fl]; exact (oi _).trans hv.f7))]
    rw [xb_ok (x_si rfl (by exact hA))]
    rw [xb_ok (x_gl (v := rl 20) rfl (by exact ha) (by simp only [fl_a ne, fl_fr, fl_fi]; exact (ol _).trans hv.f8))]
    rw [xb_ok (x_sl rfl (by exact hA))]
    rw [xb_ok (x_gl (v := rl 21) rfl (by exact ha) (by simp only [fl_a ne, fl_fr, fl_fi]; exact (ol _).trans hv.f9))]
    rw [xb_ok (x_sl rfl (by exact hA))]
    rw [xb_ok (x_gl (v := rl 23) rfl (by exact ha) (by simp only [fl_a ne, fl_fr, fl_fi]; exact (ol _).trans hv.f10))]
    rw [xb_ok (x_sl rfl (by exact hA))]
    rw [xb_ok (x_gr (v := some b1) rfl (by exact ha) (by simp only [fr_a ne, fr_fi, fr_fl]; exact (or_ _).trans p1))]
    rw [xb_ok (x_sr rfl (by exact hA))]
    rw [xb_ok (x_gr (v := some b2) rfl (by exact ha) (by simp only [fr_a ne, fr_fi, fr_fl]; exact (or_ _).trans p2))]
    rw [xb_ok (x_sr rfl (by exact hA))]
    rw [xb_ok (x_gr (v := some b3) rfl (by exact ha) (by simp only [fr_a ne, fr_fi, fr_fl]; exact (or_ _).trans p3))]
    rw [xb_ok (x_sr rfl (by exact hA))]
    rw [xb_ok (x_gi (v := I (ri 17)) rfl (by exact ha) (by simp only [fi_a ne, fi_fr, fi_fl]; exact (oi _).trans hv.f14))]
    rw [xb_ok (x_si rfl (by exact hA))]
    rw [xb_ok (x_gi (v := I (ri 18)) rfl (by exact ha) (by simp only [fi_a ne, fi_fr, fi_fl]; exact (oi _).trans hv.f15))]
    rw [xb_ok (x_si rfl (by exact hA))]
    rw [xb_ok (x_gi (v := I (ri 19)) rfl (by exact ha) (by simp only [fi_a ne, fi_fr, fi_fl]; exact (oi _).trans hv.f16))]
    rw [xb_ok (x_sz rfl (by exact hA) hz)]
    exact xp_ap _ _
  · refine ⟨ht, Nat.lt_succ_self _, hA, ?_, ?_, ?_, ?_, ?_, ?_, ?_, ?_, ?_, ?_, ?_, ?_, ?_, ?_, ⟨b1, ?_, q1.fr hG.imm⟩, ⟨b2, ?_, q2.fr hG.imm⟩, ⟨b3, ?_, q3.fr hG.imm⟩⟩
    all_goals simp (disch := decide) only [fi_s, fi_n, fi_fr, fi_fl, fl_s, fl_n, fl_fi, fl_fr, fr_s, fr_n, fr_fi, fr_fl]
    all_goals rfl
end C15
