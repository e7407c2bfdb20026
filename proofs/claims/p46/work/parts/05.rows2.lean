section R5
variable {k : QC} {cc : ByteArray} {own : String} {env env' : List (Nat × Value)} {st : List Value} {mm : QM} {pc a b : Nat}
theorem CX.arr (X : CX k cc own) {t : Nat} (ht : t ∈ qats) : ArrOfT (ks k) (kDA k t) (qaty t) ∧ va_RA (ks k) (kDA k t) (qaty t) := X.2.2.2.2.2.2.1 t ht
theorem CX.K1 (X : CX k cc own) {t : Nat} (ht : t ∈ qats) : va_K (kD k) vwCl [(kDA k t, qaty t)] (ks k) := by
  refine ⟨X.2.2.2.2.2.1, fun j q hq => ?_⟩
  have hz : j < 1 := (List.getElem?_eq_some_iff.mp hq).1
  rw [show j = 0 by omega] at hq
  cases hq
  exact X.arr ht
theorem HR.arrP {D : va_G} {DA : Nat → ClassId} {Hs : Heap} {m : QM} {H : Heap} (hR : HR D DA Hs m H) {q u n : Nat} (ht : qty m q = (2, u, n)) : H[q]? = some (vp_cell (DA u) (n, .inl (qai m q))) := by
  obtain ⟨-, -, -, c2, -⟩ := hR.2.2.2 q (by rw [ht]; simp)
  have := c2 (by rw [ht])
  rw [ht] at this; exact this
theorem HR.arrL {D : va_G} {DA : Nat → ClassId} {Hs : Heap} {m : QM} {H : Heap} (hR : HR D DA Hs m H) {q u n : Nat} (ht : qty m q = (3, u, n)) : H[q]? = some (vp_cell (DA 3) (n, .inr (.inl (qal m q)))) := by
  obtain ⟨-, -, -, -, c3, -⟩ := hR.2.2.2 q (by rw [ht]; simp)
  have := c3 (by rw [ht])
  rw [ht] at this; exact this
theorem HR.arrR {D : va_G} {DA : Nat → ClassId} {Hs : Heap} {m : QM} {H : Heap} (hR : HR D DA Hs m H) {q c n : Nat} (ht : qty m q = (4, c, n)) : H[q]? = some (vp_cell (DA (4 + c)) (n, .inr (.inr (.inr (.inr (qar m q)))))) := by
  obtain ⟨-, -, -, -, -, c4⟩ := hR.2.2.2 q (by rw [ht]; simp)
  have := c4 (by rw [ht])
  rw [ht] at this; exact this
theorem q1P {D : va_G} {q : Nat} {e : va_E} {H : Heap} (h : va_at D vwCl (q, e) H) : va_P D vwCl [(q, e)] H := by
  intro j x hx
  have hz : j < 1 := (List.getElem?_eq_some_iff.mp hx).1
  rw [show j = 0 by omega] at hx
  cases hx
  exact h
theorem q1A {D : va_G} {q : Nat} {cA : ClassId} {x : vp_A} {H : Heap} (h : H[q]? = some (vp_cell cA x)) : va_P D vwCl [(q, .inl (cA, x))] H := q1P (e := .inl (cA, x)) h
theorem g_iald {q n : Nat} {i : Int32} (X : CX k cc own) (ht : qty mm q = (2, 0, n)) (hin : vp_in i n) (hdg : decode cc pc = .ok (.iaload, 1)) (h : GG k env (.int (qai mm q i.toNatClampNeg) :: st) mm (pc + 1) a b) : GG k env (.int i :: .ref q :: st) mm pc a b :=
  fun H locs ls z hR hl hls => va_iald X.1 X.2.1 (X.K1 (t := 0) (by decide)) (q1A (hR.arrP ht)) 0 0 rfl rfl hin hdg (h H locs ls z hR hl hls)
theorem g_bald {q n : Nat} {i : Int32} (X : CX k cc own) (ht : qty mm q = (2, 2, n)) (hin : vp_in i n) (hdg : decode cc pc = .ok (.baload, 1)) (h : GG k env (.int (qai mm q i.toNatClampNeg) :: st) mm (pc + 1) a b) : GG k env (.int i :: .ref q :: st) mm pc a b :=
  fun H locs ls z hR hl hls => va_bald X.1 X.2.1 (X.K1 (t := 2) (by decide)) (q1A (hR.arrP ht)) 0 0 rfl rfl hin hdg (h H locs ls z hR hl hls)
theorem g_aald {q n c : Nat} {i : Int32} {C : String} (X : CX k cc own) (ht : qty mm q = (4, c, n)) (hc : 4 + c ∈ qats) (hC : qaty (4 + c) = .object C) (hin : vp_in i n) (hdg : decode cc pc = .ok (.aaload, 1)) (h : GG k env (va_rf (qar mm q i.toNatClampNeg) :: st) mm (pc + 1) a b) : GG k env (.int i :: .ref q :: st) mm pc a b :=
  fun H locs ls z hR hl hls => va_aldq (C := C) X.1 X.2.1 (X.K1 hc) (q1A (hR.arrR ht)) 0 0 rfl (by rw [hC]; rfl) hin hdg (h H locs ls z hR hl hls)
theorem g_alen {q t u n : Nat} (X : CX k cc own) (ht : qty mm q = (t, u, n)) (hk : t = 2 ∧ (u = 0 ∨ u = 2) ∨ t = 4 ∧ 4 + u ∈ qats) (hdg : decode cc pc = .ok (.arraylength, 1)) (h : GG k env (.int (Int32.ofNat n) :: st) mm (pc + 1) a b) : GG k env (.ref q :: st) mm pc a b := by
  intro H locs ls z hR hl hls
  rcases hk with ⟨rfl, hu⟩ | ⟨rfl, hu⟩
  · have hm : u ∈ qats := by
      rcases hu with rfl | rfl <;> decide
    exact va_alen X.1 X.2.1 (X.K1 hm) (q1A (hR.arrP ht)) 0 0 rfl rfl rfl hdg (h H locs ls z hR hl hls)
  · exact va_alen X.1 X.2.1 (X.K1 hu) (q1A (hR.arrR ht)) 0 0 rfl rfl rfl hdg (h H locs ls z hR hl hls)
/-- the stores: a cell of an array is another -/
theorem HR.putP {D : va_G} {DA : Nat → ClassId} {Hs : Heap} {m : QM} {H H' : Heap} (hR : HR D DA Hs m H) {q u n j : Nat} {x : Int32} (ht : qty m q = (2, u, n)) (z : H'.size = H.size) (o : ∀ p : Nat, p ≠ q → H'[p]? = H[p]?) (e : H'[q]? = some ((vp_cell (DA u) (n, .inl (qai m q))).setSlot j (.int x))) : HR D DA Hs (sai m q j x) H' := by
  refine hR.put (by rw [ht]; simp) z o rfl (fun _ => rfl) (fun _ _ _ => rfl) (fun _ _ _ => rfl) (fun _ _ _ => rfl) (fun p hp => va_up_diff _ _ hp) (fun _ _ => rfl) (fun _ _ => rfl) ⟨fun e => ?_, fun _ => ?_, fun e => ?_, fun e => ?_⟩
  · have e' : (qty m q).1 = 1 := e
    rw [ht] at e'; simp at e'
  · rw [e]
    show _ = some (vp_cell (DA (qty m q).2.1) ((qty m q).2.2, .inl (qai (sai m q j x) q)))
    rw [ht, vp_cell_i, vp_cell_i, arrV_store]
    congr 2
    funext p
    by_cases hp : p = j
    · subst hp; simp [updV, sai, qai, va_up]
    · simp [updV, sai, qai, va_up, hp]
  · have e' : (qty m q).1 = 3 := e
    rw [ht] at e'; simp at e'
  · have e' : (qty m q).1 = 4 := e
    rw [ht] at e'; simp at e'
theorem HR.putL {D : va_G} {DA : Nat → ClassId} {Hs : Heap} {m : QM} {H H' : Heap} (hR : HR D DA Hs m H) {q u n j : Nat} {x : Int64} (ht : qty m q = (3, u, n)) (z : H'.size = H.size) (o : ∀ p : Nat, p ≠ q → H'[p]? = H[p]?) (e : H'[q]? = some ((vp_cell (DA 3) (n, .inr (.inl (qal m q)))).setSlot j (.long x))) : HR D DA Hs (sal m q j x) H' := by
  refine hR.put (by rw [ht]; simp) z o rfl (fun _ => rfl) (fun _ _ _ => rfl) (fun _ _ _ => rfl) (fun _ _ _ => rfl) (fun _ _ => rfl) (fun p hp => va_up_diff _ _ hp) (fun _ _ => rfl) ⟨fun e => ?_, fun e => ?_, fun _ => ?_, fun e => ?_⟩
  · have e' : (qty m q).1 = 1 := e
    rw [ht] at e'; simp at e'
  · have e' : (qty m q).1 = 2 := e
    rw [ht] at e'; simp at e'
  · rw [e]
    show _ = some (vp_cell (DA 3) ((qty m q).2.2, .inr (.inl (qal (sal m q j x) q))))
    rw [ht, vp_cell_l, vp_cell_l, arrV_store]
    congr 2
    funext p
    by_cases hp : p = j
    · subst hp; simp [updV, sal, qal, va_up]
    · simp [updV, sal, qal, va_up, hp]
  · have e' : (qty m q).1 = 4 := e
    rw [ht] at e'; simp at e'
theorem HR.putR {D : va_G} {DA : Nat → ClassId} {Hs : Heap} {m : QM} {H H' : Heap} (hR : HR D DA Hs m H) {q c n j : Nat} {x : Option Nat} (ht : qty m q = (4, c, n)) (z : H'.size = H.size) (o : ∀ p : Nat, p ≠ q → H'[p]? = H[p]?) (e : H'[q]? = some ((vp_cell (DA (4 + c)) (n, .inr (.inr (.inr (.inr (qar m q)))))).setSlot j (va_rf x))) : HR D DA Hs (sar m q j x) H' := by
  refine hR.put (by rw [ht]; simp) z o rfl (fun _ => rfl) (fun _ _ _ => rfl) (fun _ _ _ => rfl) (fun _ _ _ => rfl) (fun _ _ => rfl) (fun _ _ => rfl) (fun p hp => va_up_diff _ _ hp) ⟨fun e => ?_, fun e => ?_, fun e => ?_, fun _ => ?_⟩
  · have e' : (qty m q).1 = 1 := e
    rw [ht] at e'; simp at e'
  · have e' : (qty m q).1 = 2 := e
    rw [ht] at e'; simp at e'
  · have e' : (qty m q).1 = 3 := e
    rw [ht] at e'; simp at e'
  · rw [e]
    show _ = some (vp_cell (DA (4 + (qty m q).2.1)) ((qty m q).2.2, .inr (.inr (.inr (.inr (qar (sar m q j x) q))))))
    rw [ht, vp_cell_q, vp_cell_q, arrV_store]
    congr 2
    funext p
    by_cases hp : p = j
    · subst hp; simp [updV, sar, qar, va_up]
    · simp [updV, sar, qar, va_up, hp]
theorem HR.ours {D : va_G} {DA : Nat → ClassId} {Hs : Heap} {m : QM} {H : Heap} (hR : HR D DA Hs m H) {q t u n : Nat} (ht : qty m q = (t, u, n)) (h0 : t ≠ 0) : Hs.size ≤ q := (hR.2.2.2 q (by rw [ht]; exact h0)).1
theorem q_locs {Hs : Heap} {locs : List Loc} {q j : Nat} (hl : ∀ z ∈ locs, Hs.size ≤ z.base) (hq : Hs.size ≤ q) : ∀ y ∈ locs ++ [⟨q, j⟩], Hs.size ≤ y.base := fun y hy => by
  rcases List.mem_append.mp hy with h | h
  · exact hl y h
  · rw [List.mem_singleton] at h; subst h; exact hq
theorem vp_inA {i : Int32} {n : Nat} (h : vp_in i n) (cA : ClassId) (f : Nat → Value) : ¬ (i < 0 ∨ (arrV cA n f).slots.size ≤ i.toNatClampNeg) := by rw [arrV_size]; exact h
theorem g_iast {q n : Nat} {i x : Int32} (X : CX k cc own) (ht : qty mm q = (2, 0, n)) (hin : vp_in i n) (hdg : decode cc pc = .ok (.iastore, 1)) (h : GG k env st (sai mm q i.toNatClampNeg x) (pc + 1) a b) : GG k env (.int x :: .int i :: .ref q :: st) mm pc a b :=
  fun H locs ls z hR hl hls => W.iast X.1 X.2.1 (hR.arrP ht) ((X.arr (t := 0) (by decide)).1 n (fun j => .int (qai mm q j))) (fun e => by cases e) (by rw [vp_cell_i]; exact vp_inA hin _ _) rfl rfl hdg
    fun H' e1 e2 e3 => h H' _ ls (by rw [e2]; exact z) (hR.putP ht e2 e3 e1) (q_locs hl (hR.ours ht (by decide))) hls
theorem g_bast {q n : Nat} {i x : Int32} (X : CX k cc own) (ht : qty mm q = (2, 2, n)) (hx : x.toInt8.toInt32 = x) (hin : vp_in i n) (hdg : decode cc pc = .ok (.bastore, 1)) (h : GG k env st (sai mm q i.toNatClampNeg x) (pc + 1) a b) : GG k env (.int x :: .int i :: .ref q :: st) mm pc a b :=
  fun H locs ls z hR hl hls => W.bast X.1 X.2.1 (hR.arrP ht) ((X.arr (t := 2) (by decide)).1 n (fun j => .int (qai mm q j))) (fun e => by cases e) (by rw [vp_cell_i]; exact vp_inA hin _ _) rfl rfl hdg
    fun H' e1 e2 e3 => h H' _ ls (by rw [e2]; exact z) (hR.putP ht e2 e3 (by rw [e1, show narrow .byte (.int x) = .int x by rw [← hx]; exact pk_nb x])) (q_locs hl (hR.ours ht (by decide))) hls
theorem g_aast {q n c : Nat} {i : Int32} {v : Nat} {C : String} {T : u_T} {N : Nat} (X : CX k cc own) (hcl : vwCl[c]? = some (C, T, N)) (ht : qty mm q = (4, c, n)) (hc : 4 + c ∈ qats) (hC : qaty (4 + c) = .object C) (hv : qty mm v = (1, c, 0)) (hin : vp_in i n) (hdg : decode cc pc = .ok (.aastore, 1)) (h : GG k env st (sar mm q i.toNatClampNeg (some v)) (pc + 1) a b) : GG k env (.ref v :: .int i :: .ref q :: st) mm pc a b := by
  intro H locs ls z hR hl hls
  have hlt : i.toNatClampNeg < n := Nat.not_le.mp fun q => hin (Or.inr q)
  have h0 : ¬ i < 0 := fun q => hin (Or.inl q)
  obtain ⟨-, -, c1⟩ := hR.2.2.2 v (by rw [hv]; exact Nat.one_ne_zero)
  obtain ⟨r, h1, cellV, g1, g2, g3, -⟩ := c1.1 (by rw [hv])
  rw [hv] at h1 g2
  have hcls := (X.kn hcl).2
  have hA := (X.arr hc).2
  rw [hC] at hA
  obtain ⟨kA, comp, k1, k2, k3, -⟩ := hA
  have hcomp : comp = (kD k).1 c := Option.some.inj (k3.symm.trans hcls.1)
  subst hcomp
  obtain ⟨kC, hkC, -⟩ := hcls.2
  refine W.aast X.1 X.2.1 (hR.arrR ht) (fun q h => by cases h) (fun h => by cases h) k1 k2 rfl hkC ⟨h0, by rw [vp_cell_q, arrV_size]; exact hlt⟩ g1 (fun q h => by rw [g3] at h; cases h) (by rw [g2]; exact hkC) (by rw [g2]; exact va_assign hcls) rfl rfl hdg fun H' e1 e2 e3 => ?_
  exact h H' _ ls (by rw [e2]; exact z) (hR.putR (x := some v) ht e2 e3 e1) (q_locs hl (hR.ours ht (by decide))) hls
theorem g_aastN {q n c : Nat} {i : Int32} {C : String} (X : CX k cc own) (ht : qty mm q = (4, c, n)) (hc : 4 + c ∈ qats) (hC : qaty (4 + c) = .object C) (hin : vp_in i n) (hdg : decode cc pc = .ok (.aastore, 1)) (h : GG k env st (sar mm q i.toNatClampNeg none) (pc + 1) a b) : GG k env (.null :: .int i :: .ref q :: st) mm pc a b := by
  intro H locs ls z hR hl hls
  have hA := (X.arr hc).1
  rw [hC] at hA
  refine va_WaastN (C := C) X.1 X.2.1 (hR.arrR ht) (hA n (fun j => va_rf (qar mm q j))) (fun h => by cases h) (by rw [vp_cell_q]; exact vp_inA hin _ _) rfl rfl hdg fun H' e1 e2 e3 => ?_
  exact h H' _ ls (by rw [e2]; exact z) (hR.putR (x := none) ht e2 e3 e1) (q_locs hl (hR.ours ht (by decide))) hls
/- what is new -/
theorem g_new {c i : Nat} {C : String} {T : u_T} {N : Nat} (ty : Nat → FieldType) (X : CX k cc own) (hc : vwCl[c]? = some (C, T, N)) (hin : ∀ w ∈ u_ws C T N, w ∈ qW) (hty : ∀ k, k < N → parseFieldDescriptor (T k).2.2.1 = some (ty k)) (hcl : Cond.classLink own i C ∈ qW) (hinst : Cond.instantiable C N ∈ qW) (hini : Cond.initialized C ∈ qW)
    (hfs : ∀ j, j < N → defaultValue (ty j) = (if qk c j = 0 then .int 0 else if qk c j = 1 then .long 0 else .null)) (hcells : a + 1 ≤ (kR k).cells) (hslots : b + N ≤ (kR k).slots) (hdg : decode cc pc = .ok (.new i, 3)) (h : GG k env (.ref (qtop mm) :: st) (qnew mm c) (pc + 3) (a + 1) (b + N)) : GG k env st mm pc a b := by
  intro H locs ls z hR hl hls
  have hKn := X.kn hc
  refine W.newcK X.1 X.2.1 X.2.2.2.1 (X.2.2.2.2.1 _ hcl) (X.2.2.2.2.1 _ hinst) (X.2.2.2.2.1 _ hini) rfl hdg hcells hslots hKn.2.1 hR.2.1 fun H1 kC hkC e1 z1 o1 => ?_
  have hz := hR.2.1
  refine h H1 locs ls (by omega) (hR.push (by omega) (fun q hq => o1 q (by omega)) rfl (fun b hb => va_up_diff _ _ hb) (fun f b hb => va_up_diff _ _ hb) (fun f b hb => va_up_diff _ _ hb) (fun f b hb => va_up_diff _ _ hb) (fun _ _ => rfl) (fun _ _ => rfl) (fun _ _ => rfl) ?_) hl hls
  have hq : qty (qnew mm c) (qtop mm) = (1, c, 0) := va_up_same _ _ _
  refine ⟨fun _ => ?_, fun e => by rw [hq] at e; simp at e, fun e => by rw [hq] at e; simp at e, fun e => by rw [hq] at e; simp at e⟩
  rw [hq]
  refine ⟨_, hc, (u_born ty (fun w hw => X.2.2.2.2.1 w hw) hin hKn hkC e1 hty).to fun j hj => ?_⟩
  rw [hfs j hj]
  show _ = if qk c j = 0 then Value.int (va_up (mm.2.1 (64 * c + j)) (qtop mm) 0 (qtop mm)) else if qk c j = 1 then .long (va_up (mm.2.2.1 (64 * c + j)) (qtop mm) 0 (qtop mm)) else va_rf (va_up (mm.2.2.2.1 (64 * c + j)) (qtop mm) none (qtop mm))
  rw [va_up_same, va_up_same, va_up_same]
  rfl
theorem HR.pushP {D : va_G} {DA : Nat → ClassId} {Hs : Heap} {m : QM} {H H' : Heap} (hR : HR D DA Hs m H) {u n : Nat} {f : Nat → Int32} (z : H'.size = H.size + 1) (o : ∀ p : Nat, p < H.size → H'[p]? = H[p]?) (e : H'[qtop m]? = some (vp_cell (DA u) (n, .inl f))) : HR D DA Hs (qnewi m u n f) H' := by
  have hq : qty (qnewi m u n f) (qtop m) = (2, u, n) := va_up_same _ _ _
  refine hR.push z o rfl (fun b hb => va_up_diff _ _ hb) (fun _ _ _ => rfl) (fun _ _ _ => rfl) (fun _ _ _ => rfl) (fun b hb => va_up_diff _ _ hb) (fun _ _ => rfl) (fun _ _ => rfl) ⟨fun e => by rw [hq] at e; simp at e, fun _ => ?_, fun e => by rw [hq] at e; simp at e, fun e => by rw [hq] at e; simp at e⟩
  rw [hq]
  show _ = some (vp_cell (DA u) (n, .inl (va_up m.2.2.2.2.1 (qtop m) f (qtop m))))
  rw [va_up_same]
  exact e
theorem HR.pushL {D : va_G} {DA : Nat → ClassId} {Hs : Heap} {m : QM} {H H' : Heap} (hR : HR D DA Hs m H) {n : Nat} (z : H'.size = H.size + 1) (o : ∀ p : Nat, p < H.size → H'[p]? = H[p]?) (e : H'[qtop m]? = some (vp_cell (DA 3) (n, .inr (.inl fun _ => 0)))) : HR D DA Hs (qnewl m n) H' := by
  have hq : qty (qnewl m n) (qtop m) = (3, 0, n) := va_up_same _ _ _
  refine hR.push z o rfl (fun b hb => va_up_diff _ _ hb) (fun _ _ _ => rfl) (fun _ _ _ => rfl) (fun _ _ _ => rfl) (fun _ _ => rfl) (fun b hb => va_up_diff _ _ hb) (fun _ _ => rfl) ⟨fun e => by rw [hq] at e; simp at e, fun e => by rw [hq] at e; simp at e, fun _ => ?_, fun e => by rw [hq] at e; simp at e⟩
  rw [hq]
  show _ = some (vp_cell (DA 3) (n, .inr (.inl (va_up m.2.2.2.2.2.1 (qtop m) (fun _ => 0) (qtop m)))))
  rw [va_up_same]
  exact e
theorem HR.pushR {D : va_G} {DA : Nat → ClassId} {Hs : Heap} {m : QM} {H H' : Heap} (hR : HR D DA Hs m H) {c n : Nat} (z : H'.size = H.size + 1) (o : ∀ p : Nat, p < H.size → H'[p]? = H[p]?) (e : H'[qtop m]? = some (vp_cell (DA (4 + c)) (n, .inr (.inr (.inr (.inr fun _ => none)))))) : HR D DA Hs (qnewr m c n) H' := by
  have hq : qty (qnewr m c n) (qtop m) = (4, c, n) := va_up_same _ _ _
  refine hR.push z o rfl (fun b hb => va_up_diff _ _ hb) (fun _ _ _ => rfl) (fun _ _ _ => rfl) (fun _ _ _ => rfl) (fun _ _ => rfl) (fun _ _ => rfl) (fun b hb => va_up_diff _ _ hb) ⟨fun e => by rw [hq] at e; simp at e, fun e => by rw [hq] at e; simp at e, fun e => by rw [hq] at e; simp at e, fun _ => ?_⟩
  rw [hq]
  show _ = some (vp_cell (DA (4 + c)) (n, .inr (.inr (.inr (.inr (va_up m.2.2.2.2.2.2.1 (qtop m) (fun _ => none) (qtop m)))))))
  rw [va_up_same]
  exact e
theorem q_i32 {x : Int32} {cap : Nat} (h : 0 ≤ x.toInt ∧ x.toInt ≤ cap) : ¬ x < 0 ∧ x.toNatClampNeg ≤ cap := by
  refine ⟨fun q => ?_, ?_⟩
  · rw [Int32.lt_iff_toInt_lt, Int32.toInt_zero] at q; omega
  · show x.toInt.toNat ≤ cap
    omega
theorem g_newi0 {n : Int32} (cap : Nat) (X : CX k cc own) (hw : Cond.arrayClass .int ∈ qW) (hn : 0 ≤ n.toInt ∧ n.toInt ≤ cap) (hcap : cap ≤ 100000) (hcells : a + 1 ≤ (kR k).cells) (hslots : b + cap ≤ (kR k).slots) (hdg : decode cc pc = .ok (.newarray .int, 2)) (h : GG k env (.ref (qtop mm) :: st) (qnewi mm 0 n.toNatClampNeg (fun _ => 0)) (pc + 2) (a + 1) (b + cap)) : GG k env (.int n :: st) mm pc a b := by
  intro H locs ls z hR hl hls
  obtain ⟨n0, n1⟩ := q_i32 hn
  refine va_newaK (atype := .int) X.1 X.2.1 (X.2.2.2.2.1 _ hw) rfl hdg rfl n0 rfl (by show n.toNatClampNeg * 4 ≤ 536870912; omega) hcells (by omega) hR.2.1 fun H1 cA e1 z1 o1 hAr hNm => ?_
  have hz := hR.2.1
  have hcA : cA = kDA k 0 := Option.some.inj (hNm.symm.trans (X.arr (t := 0) (by decide)).2)
  refine W.widen (Nat.le_refl _) (show b + n.toNatClampNeg ≤ b + cap by omega) (h H1 locs ls (by omega) (hR.pushP (by omega) (fun q hq => o1 q (by omega)) ?_) hl hls)
  rw [e1, hcA]
  rfl
theorem g_newi2 {n : Int32} (cap : Nat) (X : CX k cc own) (hw : Cond.arrayClass .byte ∈ qW) (hn : 0 ≤ n.toInt ∧ n.toInt ≤ cap) (hcap : cap ≤ 100000) (hcells : a + 1 ≤ (kR k).cells) (hslots : b + cap ≤ (kR k).slots) (hdg : decode cc pc = .ok (.newarray .byte, 2)) (h : GG k env (.ref (qtop mm) :: st) (qnewi mm 2 n.toNatClampNeg (fun _ => 0)) (pc + 2) (a + 1) (b + cap)) : GG k env (.int n :: st) mm pc a b := by
  intro H locs ls z hR hl hls
  obtain ⟨n0, n1⟩ := q_i32 hn
  refine va_newaK (atype := .byte) X.1 X.2.1 (X.2.2.2.2.1 _ hw) rfl hdg rfl n0 rfl (by show n.toNatClampNeg * 1 ≤ 536870912; omega) hcells (by omega) hR.2.1 fun H1 cA e1 z1 o1 hAr hNm => ?_
  have hz := hR.2.1
  have hcA : cA = kDA k 2 := Option.some.inj (hNm.symm.trans (X.arr (t := 2) (by decide)).2)
  refine W.widen (Nat.le_refl _) (show b + n.toNatClampNeg ≤ b + cap by omega) (h H1 locs ls (by omega) (hR.pushP (by omega) (fun q hq => o1 q (by omega)) ?_) hl hls)
  rw [e1, hcA]
  rfl
theorem g_newr {n : Int32} {c i : Nat} {C : String} (cap : Nat) (X : CX k cc own) (hcl : Cond.classLink own i C ∈ qW) (hw : Cond.arrayOver (.object C) ∈ qN) (hc : 4 + c ∈ qats) (hC : qaty (4 + c) = .object C) (hn : 0 ≤ n.toInt ∧ n.toInt ≤ cap) (hcap : cap ≤ 100000) (hcells : a + 1 ≤ (kR k).cells) (hslots : b + cap ≤ (kR k).slots) (hdg : decode cc pc = .ok (.anewarray i, 3)) (h : GG k env (.ref (qtop mm) :: st) (qnewr mm c n.toNatClampNeg) (pc + 3) (a + 1) (b + cap)) : GG k env (.int n :: st) mm pc a b := by
  intro H locs ls z hR hl hls
  obtain ⟨n0, n1⟩ := q_i32 hn
  refine W.anew X.1 X.2.1 X.2.2.2.1 (X.2.2.2.2.1 _ hcl) (X.2.2.2.2.2.word hw) rfl hdg rfl n0 (by omega) hcells (by omega) fun cA kA comp f1 f2 f3 f4 => ?_
  have hz := hR.2.1
  have hA := (X.arr hc).2
  rw [hC] at hA
  obtain ⟨kA', comp', g1, g2, g3, g4⟩ := hA
  have hcA : cA = kDA k (4 + c) := Option.some.inj (f1.symm.trans g4)
  rw [hz]
  refine W.widen (Nat.le_refl _) (show b + n.toNatClampNeg ≤ b + cap by omega) (h _ locs ls (by rw [Array.size_push]; omega) (hR.pushR (by rw [Array.size_push]) (fun q hq => by rw [Array.getElem?_push, if_neg (Nat.ne_of_lt hq)]) ?_) hl hls)
  rw [← hz, Array.getElem?_push_size, hcA, arrV_new, vp_cell_q]
  rfl
end R5
