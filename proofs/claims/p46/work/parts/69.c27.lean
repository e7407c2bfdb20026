def MSO (m : QM) (T : Nat) (kd : Int32) (mt : Option Nat) (sn rc : Int32) (ve : Option Nat) (dy lc an ot st : Int32) : Prop :=
  (qty m T = (1, 2, 0)) ∧ (qfi m 128 T = kd) ∧ (qfr m 129 T = mt) ∧ (qfi m 130 T = sn) ∧ (qfi m 131 T = rc) ∧ (qfr m 132 T = ve) ∧ (qfi m 133 T = dy) ∧ (qfi m 134 T = lc) ∧ (qfi m 135 T = an) ∧ (qfi m 136 T = ot) ∧ (qfi m 137 T = st) ∧ (qfi m 138 T = 0) ∧ (qfi m 139 T = 0)
theorem MSO.ty {m : QM} {T : Nat} {kd : Int32} {mt : Option Nat} {sn rc : Int32} {ve : Option Nat} {dy lc an ot st : Int32} (h : MSO m T kd mt sn rc ve dy lc an ot st) : qty m T = (1, 2, 0) := h.1
theorem MSO.f0 {m : QM} {T : Nat} {kd : Int32} {mt : Option Nat} {sn rc : Int32} {ve : Option Nat} {dy lc an ot st : Int32} (h : MSO m T kd mt sn rc ve dy lc an ot st) : qfi m 128 T = kd := h.2.1
theorem MSO.f1 {m : QM} {T : Nat} {kd : Int32} {mt : Option Nat} {sn rc : Int32} {ve : Option Nat} {dy lc an ot st : Int32} (h : MSO m T kd mt sn rc ve dy lc an ot st) : qfr m 129 T = mt := h.2.2.1
theorem MSO.f2 {m : QM} {T : Nat} {kd : Int32} {mt : Option Nat} {sn rc : Int32} {ve : Option Nat} {dy lc an ot st : Int32} (h : MSO m T kd mt sn rc ve dy lc an ot st) : qfi m 130 T = sn := h.2.2.2.1
theorem MSO.f3 {m : QM} {T : Nat} {kd : Int32} {mt : Option Nat} {sn rc : Int32} {ve : Option Nat} {dy lc an ot st : Int32} (h : MSO m T kd mt sn rc ve dy lc an ot st) : qfi m 131 T = rc := h.2.2.2.2.1
theorem MSO.f4 {m : QM} {T : Nat} {kd : Int32} {mt : Option Nat} {sn rc : Int32} {ve : Option Nat} {dy lc an ot st : Int32} (h : MSO m T kd mt sn rc ve dy lc an ot st) : qfr m 132 T = ve := h.2.2.2.2.2.1
theorem MSO.f5 {m : QM} {T : Nat} {kd : Int32} {mt : Option Nat} {sn rc : Int32} {ve : Option Nat} {dy lc an ot st : Int32} (h : MSO m T kd mt sn rc ve dy lc an ot st) : qfi m 133 T = dy := h.2.2.2.2.2.2.1
theorem MSO.f6 {m : QM} {T : Nat} {kd : Int32} {mt : Option Nat} {sn rc : Int32} {ve : Option Nat} {dy lc an ot st : Int32} (h : MSO m T kd mt sn rc ve dy lc an ot st) : qfi m 134 T = lc := h.2.2.2.2.2.2.2.1
theorem MSO.f7 {m : QM} {T : Nat} {kd : Int32} {mt : Option Nat} {sn rc : Int32} {ve : Option Nat} {dy lc an ot st : Int32} (h : MSO m T kd mt sn rc ve dy lc an ot st) : qfi m 135 T = an := h.2.2.2.2.2.2.2.2.1
theorem MSO.f8 {m : QM} {T : Nat} {kd : Int32} {mt : Option Nat} {sn rc : Int32} {ve : Option Nat} {dy lc an ot st : Int32} (h : MSO m T kd mt sn rc ve dy lc an ot st) : qfi m 136 T = ot := h.2.2.2.2.2.2.2.2.2.1
theorem MSO.f9 {m : QM} {T : Nat} {kd : Int32} {mt : Option Nat} {sn rc : Int32} {ve : Option Nat} {dy lc an ot st : Int32} (h : MSO m T kd mt sn rc ve dy lc an ot st) : qfi m 137 T = st := h.2.2.2.2.2.2.2.2.2.2.1
theorem MSO.f10 {m : QM} {T : Nat} {kd : Int32} {mt : Option Nat} {sn rc : Int32} {ve : Option Nat} {dy lc an ot st : Int32} (h : MSO m T kd mt sn rc ve dy lc an ot st) : qfi m 138 T = 0 := h.2.2.2.2.2.2.2.2.2.2.2.1
theorem MSO.f11 {m : QM} {T : Nat} {kd : Int32} {mt : Option Nat} {sn rc : Int32} {ve : Option Nat} {dy lc an ot st : Int32} (h : MSO m T kd mt sn rc ve dy lc an ot st) : qfi m 139 T = 0 := h.2.2.2.2.2.2.2.2.2.2.2.2
section C27
variable {sv : Nat} {G G' : GM} {S S' : MS} {m m' M W : QM} {t : Int} {T a : Nat} {kd sn rc dy lc an ot st : Int32} {mt ve : Option Nat}
theorem MSO.w5 {x : Int32} (h : MSO m T kd mt sn rc ve dy lc an ot st) : MSO (sfi m 133 T x) T kd mt sn rc ve x lc an ot st := ⟨h.ty, (fi_n (by decide)).trans h.f0, h.f1, (fi_n (by decide)).trans h.f2, (fi_n (by decide)).trans h.f3, h.f4, fi_s, (fi_n (by decide)).trans h.f6, (fi_n (by decide)).trans h.f7, (fi_n (by decide)).trans h.f8, (fi_n (by decide)).trans h.f9, (fi_n (by decide)).trans h.f10, (fi_n (by decide)).trans h.f11⟩
theorem MSO.w6 {x : Int32} (h : MSO m T kd mt sn rc ve dy lc an ot st) : MSO (sfi m 134 T x) T kd mt sn rc ve dy x an ot st := ⟨h.ty, (fi_n (by decide)).trans h.f0, h.f1, (fi_n (by decide)).trans h.f2, (fi_n (by decide)).trans h.f3, h.f4, (fi_n (by decide)).trans h.f5, fi_s, (fi_n (by decide)).trans h.f7, (fi_n (by decide)).trans h.f8, (fi_n (by decide)).trans h.f9, (fi_n (by decide)).trans h.f10, (fi_n (by decide)).trans h.f11⟩
theorem MSO.w7 {x : Int32} (h : MSO m T kd mt sn rc ve dy lc an ot st) : MSO (sfi m 135 T x) T kd mt sn rc ve dy lc x ot st := ⟨h.ty, (fi_n (by decide)).trans h.f0, h.f1, (fi_n (by decide)).trans h.f2, (fi_n (by decide)).trans h.f3, h.f4, (fi_n (by decide)).trans h.f5, (fi_n (by decide)).trans h.f6, fi_s, (fi_n (by decide)).trans h.f8, (fi_n (by decide)).trans h.f9, (fi_n (by decide)).trans h.f10, (fi_n (by decide)).trans h.f11⟩
theorem MSO.w8 {x : Int32} (h : MSO m T kd mt sn rc ve dy lc an ot st) : MSO (sfi m 136 T x) T kd mt sn rc ve dy lc an x st := ⟨h.ty, (fi_n (by decide)).trans h.f0, h.f1, (fi_n (by decide)).trans h.f2, (fi_n (by decide)).trans h.f3, h.f4, (fi_n (by decide)).trans h.f5, (fi_n (by decide)).trans h.f6, (fi_n (by decide)).trans h.f7, fi_s, (fi_n (by decide)).trans h.f9, (fi_n (by decide)).trans h.f10, (fi_n (by decide)).trans h.f11⟩
theorem MSO.w9 {x : Int32} (h : MSO m T kd mt sn rc ve dy lc an ot st) : MSO (sfi m 137 T x) T kd mt sn rc ve dy lc an ot x := ⟨h.ty, (fi_n (by decide)).trans h.f0, h.f1, (fi_n (by decide)).trans h.f2, (fi_n (by decide)).trans h.f3, h.f4, (fi_n (by decide)).trans h.f5, (fi_n (by decide)).trans h.f6, (fi_n (by decide)).trans h.f7, (fi_n (by decide)).trans h.f8, fi_s, (fi_n (by decide)).trans h.f10, (fi_n (by decide)).trans h.f11⟩
def NM (m : QM) (kd : Int32) (mt : Option Nat) (sn rc : Int32) (ve : Option Nat) : QM := sfr (sfi (sfi (sfr (sfi (sfi (sfi (sfi (sfi (qnew m 2) 133 (qtop m) (-1)) 134 (qtop m) (-1)) 135 (qtop m) 0) 136 (qtop m) (-1)) 128 (qtop m) kd) 129 (qtop m) mt) 130 (qtop m) sn) 131 (qtop m) rc) 132 (qtop m) ve
theorem nm_g : GROW m (NM m kd mt sn rc ve) := by
  unfold NM
  repeat' first
    | exact (GROW.refl m).qnew
    | refine GROW.sfi ?_ (Nat.le_refl _)
    | refine GROW.sfr ?_ (Nat.le_refl _)
theorem nm_m : MSO (NM m kd mt sn rc ve) (qtop m) kd mt sn rc ve (-1) (-1) 0 (-1) 0 := by
  have zi : ∀ f, qfi (qnew m 2) f (qtop m) = 0 := fun f => va_up_same _ _ _
  refine ⟨va_up_same _ _ _, ?_, ?_, ?_, ?_, ?_, ?_, ?_, ?_, ?_, ?_, ?_, ?_⟩
  all_goals unfold NM
  all_goals simp (disch := decide) only [fi_s, fi_n, fi_fr, fr_s, fr_n, fr_fi]
  all_goals first | rfl | exact zi _
theorem c_msgInit : F_X1_init (qtop m) kd mt sn rc ve (qnew m 2) = some (.ok (), NM m kd mt sn rc ve) := by
  have hA : qty (qnew m 2) (qtop m) = (1, 2, 0) := va_up_same _ _ _
  unfold F_X1_init
  simp only [xb_xp, xb_as]
  rw [xb_ok (x_si rfl (by exact hA))]
  rw [xb_ok (x_si rfl (by exact hA))]
  rw [xb_ok (x_si rfl (by exact hA))]
  rw [xb_ok (x_si rfl (by exact hA))]
  rw [xb_ok (x_si rfl (by exact hA))]
  rw [xb_ok (x_sr rfl (by exact hA))]
  rw [xb_ok (x_si rfl (by exact hA))]
  rw [xb_ok (x_si rfl (by exact hA))]
  rw [xb_ok (x_sr rfl (by exact hA))]
  exact xp_ap _ _
theorem c_putMessage {n : Int} (h : CF sv m) (hf : qfi m 453 sv = I n) (h0 : 0 ≤ n) (h1 : n < 150) (ht : qty m T = (1, 2, 0)) : F_X6_putMessage sv (some T) m = some (.ok (I n), fiT sv n.toNat (some T) (I (n + 1)) m) := by
  unfold F_X6_putMessage
  simp only [xb_xp, xb_as]
  have t1 : qty (sar m (sv + 4) n.toNat (some T)) sv = (1, 7, 0) := h.ty
  have t2 : qfi (sar m (sv + 4) n.toNat (some T)) 453 sv = I n := hf
  rw [xb_ok (x_gi rfl h.ty hf), gl150, d_lt (by omega) (by omega) (by omega) (by omega), decide_eq_true h1, if_pos rfl]
  simp only [xb_as]
  rw [ys3 h, xb_ok (x_sar h.t4 (by decide) h0 (by omega) ht), xb_ok (x_gi rfl t1 t2), gl1, I_add, xb_ok (x_si rfl t1), xb_xp, xp_ap]; rfl
theorem IMM.war {b j : Nat} {x : Option Nat} (h : IMM sv m M) : IMM sv m (sar M b j x) := h.trans ⟨Nat.le_refl _, fun _ _ _ => rfl, fun _ _ _ _ _ => rfl, fun _ _ _ _ _ => rfl, fun _ _ _ _ _ => rfl, fun _ _ _ => rfl⟩
theorem fiT_im {j : Nat} {v : Option Nat} {x : Int32} (h : IMM sv m M) : IMM sv m (fiT sv j v x M) := (h.war).wfi (Or.inr (by decide))
theorem fiT_kp {j : Nat} {v : Option Nat} {x : Int32} (h : KP sv m M) : KP sv m (fiT sv j v x M) := h.trans ⟨Nat.le_refl _, fun b u w => ⟨rfl, fun f => fi_a (by omega), fun f => rfl, rfl, rfl⟩⟩
theorem fiT_row {n : Nat} {x : Int32} (j : Nat) : qar (fiT sv n (some T) x M) (sv + 4) j = if j = n then some T else qar M (sv + 4) j := by
  show va_up (qar M) (sv + 4) (va_up (qar M (sv + 4)) n (some T)) (sv + 4) j = _
  rw [va_up_same]
  by_cases e : j = n
  · subst e; rw [va_up_same, if_pos rfl]
  · rw [va_up_diff _ _ e, if_neg e]
theorem CR.app2 (h : CR sv G S M) (hw : WR t S) (hf : FRV S) (e : EA S' S) (hn : mf S 29 < 150) (h42 : ma S' 42 (mf S 29) = 0) (h31 : ma S' 31 (mf S 29) ≠ 1) (f30 : mf S' 30 = mf S 30) (hl : ∀ k, 0 ≤ k → k < mf S 29 → ag G k < T)
    (mg : MG sv (gap G (mf S 29) T a) S' (fiT sv (mf S 29).toNat (some T) (I (mf S 29 + 1)) M) (mf S 29)) : CR sv (gap G (mf S 29) T a) S' (fiT sv (mf S 29).toNat (some T) (I (mf S 29 + 1)) M) := by
  have h0 := hw.nn
  refine h.app (by omega) e h42 hl (by rw [f30]; exact (fi_n (by decide)).trans h.f6) fi_s rfl rfl rfl rfl rfl (fun f b q _ => fi_n q) (fun j => fiT_row j) (fun b q _ => va_up_diff _ _ q) (fun i p d x y u v w z => ?_) mg
  have hm := h.mt i x y
  rw [ownb_app e (by omega)]
  have c0 : cO S' i p d (mf S 29) = false := by unfold cO; rw [decide_eq_false h31]; rfl
  rw [c0, Bool.false_and, if_neg (by decide), oad_gap (ownb_lt (by omega) _ _ _)]
  refine Eq.trans ?_ (hm.ow p d u v w z)
  exact congrFun (va_up_diff _ _ (by have := hm.lo; omega)) _
theorem ea_req {f r i v : Int} : EA (sReq S f r i v) S := by
  refine ⟨fun J a b => funext fun y => ?_, fun J y a b => ?_, rfl, fun J a b => if_neg a, rfl⟩
  · unfold sReq sAdds
    simp only [ma_setf, ml_setf, mf_setf, ma_seta, ml_seta, mf_seta, ma_setl, ml_setl, mf_setl]
    rw [if_neg (by omega), if_neg (by omega), if_neg (by omega), if_neg (by omega), if_neg (by omega), if_neg (by omega), if_neg (by omega), if_neg (by omega), if_neg (by omega)]
  · unfold sReq sAdds
    simp only [ma_setf, ml_setf, mf_setf, ma_seta, ml_seta, mf_seta, ma_setl, ml_setl, mf_setl]
    rw [if_neg (by omega), if_neg (by omega), if_neg (by omega), if_neg (by omega), if_neg (by omega), if_neg (by omega), if_neg (by omega), if_neg (by omega), if_neg (by omega)]
theorem c_putRequest {f r i v : Int} (h : CR sv G S m) (hw : WR t S) (hf : FRV S) (hn : mf S 29 < 150) (hv : VS sv m a S v) (i0 : 0 ≤ i) (i1 : i < mf S 3) :
    ∃ m', F_X6_putRequest sv (some (am G i)) (I f) (I r) (some a) m = some (.ok (), m') ∧ CR sv (gap G (mf S 29) (qtop m) a) (sReq S f r i v) m' ∧ KP sv m m' ∧ IMM sv m m' := by
  have h0 := hw.nn
  have tp := h.cf.top
  have hM := nm_m (m := m) (kd := I 0) (mt := some (am G i)) (sn := I f) (rc := I r) (ve := some a)
  have gM := nm_g (m := m) (kd := I 0) (mt := some (am G i)) (sn := I f) (rc := I r) (ve := some a)
  have qT : qtop (NM m (I 0) (some (am G i)) (I f) (I r) (some a)) = qtop m + 1 := rfl
  have ei := c_msgInit (m := m) (kd := I 0) (mt := some (am G i)) (sn := I f) (rc := I r) (ve := some a)
  generalize NM m (I 0) (some (am G i)) (I f) (I r) (some a) = M at hM gM ei qT
  have hC := h.grow gM
  have iW : IMM sv m (fiT sv (mf S 29).toNat (some (qtop m)) (I (mf S 29 + 1)) M) := fiT_im gM.imm
  have k42 := (hf.2.2 (mf S 29) (by omega) hn).2.2.2.2.2.1
  have v31 : ma (sReq S f r i v) 31 (mf S 29) = 0 := by simp [sReq, sAdds, ma_setf, ml_setf, mf_setf, ma_seta, ml_seta, mf_seta, ma_setl, ml_setl, mf_setl]
  have v32 : ma (sReq S f r i v) 32 (mf S 29) = f := by simp [sReq, sAdds, ma_setf, ml_setf, mf_setf, ma_seta, ml_seta, mf_seta, ma_setl, ml_setl, mf_setl]
  have v33 : ma (sReq S f r i v) 33 (mf S 29) = r := by simp [sReq, sAdds, ma_setf, ml_setf, mf_setf, ma_seta, ml_seta, mf_seta, ma_setl, ml_setl, mf_setl]
  have v34 : ma (sReq S f r i v) 34 (mf S 29) = i := by simp [sReq, sAdds, ma_setf, ml_setf, mf_setf, ma_seta, ml_seta, mf_seta, ma_setl, ml_setl, mf_setl]
  have v35 : ma (sReq S f r i v) 35 (mf S 29) = v := by simp [sReq, sAdds, ma_setf, ml_setf, mf_setf, ma_seta, ml_seta, mf_seta, ma_setl, ml_setl, mf_setl]
  have v36 : ma (sReq S f r i v) 36 (mf S 29) = ma S 9 v := by simp [sReq, sAdds, ma_setf, ml_setf, mf_setf, ma_seta, ml_seta, mf_seta, ma_setl, ml_setl, mf_setl]
  have v37 : ma (sReq S f r i v) 37 (mf S 29) = -1 := by simp [sReq, sAdds, ma_setf, ml_setf, mf_setf, ma_seta, ml_seta, mf_seta, ma_setl, ml_setl, mf_setl]
  have v42 : ma (sReq S f r i v) 42 (mf S 29) = 0 := by simp [sReq, sAdds, ma_setf, ml_setf, mf_setf, ma_seta, ml_seta, mf_seta, ma_setl, ml_setl, mf_setl, k42]
  have ea := ea_req (S := S) (f := f) (r := r) (i := i) (v := v)
  have hv2 := (hv.fr iW).to (ea.svv v)
  have mg : MG sv (gap G (mf S 29) (qtop m) a) (sReq S f r i v) (fiT sv (mf S 29).toNat (some (qtop m)) (I (mf S 29 + 1)) M) (mf S 29) := by
    have e1 : ag (gap G (mf S 29) (qtop m) a) (mf S 29) = qtop m := if_pos rfl
    have e2 : Jvm.Pilot.CMeetingServerLaw_law_r1901_9528e9.av (gap G (mf S 29) (qtop m) a) (mf S 29) = a := if_pos rfl
    unfold MG
    rw [e1, e2, v31, v32, v33, v34, v35, v36, v37]
    refine ⟨tp, (by show qtop m < qtop M; omega), hM.ty, ?_, (fi_n (by decide)).trans hM.f0, hM.f1, (fi_n (by decide)).trans hM.f2, (fi_n (by decide)).trans hM.f3, hM.f4, hv2.lo, hv2.hi, hv2.ty, ?_, fun _ => hv2, (fi_n (by decide)).trans hM.f5, fun z => absurd z (by decide), fun z => absurd z (by decide), fun z => absurd z (by decide), fun z => absurd z (by decide), fun z => absurd rfl z, fun z => absurd z (by decide)⟩
    · rw [fiT_row, if_pos rfl]
    · exact ((hv.fr iW).f0 : _)
  refine ⟨fiT sv (mf S 29).toNat (some (qtop m)) (I (mf S 29 + 1)) M, ?_, hC.app2 hw hf ea hn v42 (by rw [v31]; decide) rfl (fun k x y => (h.mg k x y).hi) mg, fiT_kp (gM.kp tp), iW⟩
  have hP := c_putMessage hC.cf hC.f5 (by omega) hn hM.ty
  unfold F_X6_putRequest
  simp only [xb_xp, xb_as]
  have t1 : qty (qnew m 2) (qtop m) = (1, 2, 0) := va_up_same _ _ _
  rw [xb_ok (x_new 2 m), xb_xo t1, gl0, xb_ok ei, os_b hC.cf, xb_ok hP, xp_ap]
end C27
