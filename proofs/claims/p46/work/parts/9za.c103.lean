/-! the law's entry and end (the skeleton's words); what the Statement gives at the start -/
def R_law : String := "MeetingServerLaw"
def lw_P (b : Addr) (xs : List Int32) (args : Array Value) (s : State) : Prop := args = #[.ref b] ∧ s.IntsAt b xs ∧ xs.length ≤ 260 ∧ (Jvm.Cond.and given_1 narrow_1).before args s = true
def lw_Q (_ : Array Value) (s : State) (o : Outcome) (t : State) : Prop := o = .returned (some (.int 1)) ∧ Framed s o t [] 600086 7301442
def lw_Z (below : List Frame) (a : Array Value) (s : State) : State → Prop := fun t => ∃ o, t.status = .running ∧ Ended t below o ∧ lw_Q a s o t
/-- the law's own end, with 1 on the stack, nothing written that was there before, its room as the claim has it -/
theorem lw_ret {p : Program} {l : Launch} {e : Env} {s : State} {m : MethodId} {below : List Frame} {meth : Method} {c : Code} {b : Nat} (hx : p.tables.exec = Jvm.exec) (hb : c.code = code) (hr : meth.sig.returnType = ret) (hlocks : meth.locks = false) {pc : Nat} {H : Heap} {ls : Array Slot} (hdg : decode code pc = .ok (.ireturn, 1)) : W p l e room_1 s m #[Value.ref b] below meth c H [] 600086 7301442 (lw_Z below #[Value.ref b] s) (F0 m pc ls [.int 1]) := by
  intro T hT X
  obtain ⟨fs, hret, hrun, hended, hW, hframe⟩ := X.leave (v := some (.int 1)) (hlocks := hlocks) (fun h => by rw [hr] at h; cases h)
  have hmeth' : T.vm.method? m = some meth := X.method'
  refine ⟨T.setFrames fs, ?_, .returned (some (.int 1)), hrun, hended, rfl, ⟨_, rfl⟩, hW, hframe⟩
  jvm_step X.here [X.here.top, hx, hb, hdg, hmeth', hr, ret, narrow_b1]
  (try refine ⟨rfl, ?_⟩); (try refine ⟨rfl, ?_⟩)
  first | (intro acts; rw [hret _ acts rfl rfl rfl]) | rw [hret _ _ rfl rfl rfl]
  exact Steps.refl _
/-- what holds at the law's entry: the machine, the code, the tables' words (any of lw_tbl by 'hts w (by decide +kernel)'), the script of L ints xs at the cell b, what the Statement gives of the start (any of its parts by flat_of_before) -/
def lw_At (p : Program) (s : State) (m : MethodId) (meth : Method) (c : Code) (b L : Nat) (xs : Nat → Int32) : Prop :=
  p.tables.exec = Jvm.exec ∧ c.code = code ∧ meth.sig.returnType = ret ∧ c.maxLocals = 8 ∧ s.vm.findClass R_law = some m.cls ∧ (∀ w ∈ lw_tbl, w.before #[Value.ref b] s = true) ∧ va_X b L xs s s.heap ∧ b < s.heap.size ∧ meth.locks = false ∧ (Jvm.Cond.and given_1 narrow_1).before #[Value.ref b] s = true
theorem ar_ok {s : State} {cA comp : ClassId} {kA : Class} {ty : FieldType} (h2 : s.vm.classes[cA]? = some kA) (h3 : kA.kind = .array comp ty) : ArrOfT s cA ty := fun n z => ⟨fun k h => (by cases h), kA, h2, comp, h3⟩
/-- the conjuncts of a condition, in one walk -/
def flatA : Cond → List Cond → List Cond
  | .and a b, r => flatA a (flatA b r)
  | c, r => c :: r
theorem flatA_eq (c : Cond) : ∀ r, flatA c r = flatC c ++ r := by
  induction c with
  | and a b iha ihb =>
    intro r
    show flatA a (flatA b r) = (flatC a ++ flatC b) ++ r
    rw [ihb, iha, List.append_assoc]
  | _ => intro r; rfl
/-- the Statement's conjuncts -/
def flX : List Cond := flatA (Jvm.Cond.and given_1 narrow_1) []
theorem fl_at (i : Nat) {c : Cond} (h : flX[i]? = some c) : c ∈ flatC (Jvm.Cond.and given_1 narrow_1) := by
  have q := List.mem_of_getElem? h
  unfold flX at q
  rw [flatA_eq, List.append_nil] at q
  exact q
def qsp : List Nat := [307, 318, 328, 342, 357, 374, 391]
def qsr : List Nat := [687, 688, 689, 858, 859, 860, 861]
set_option maxRecDepth 100000 in
theorem fk_st : ∀ i, i < 7 → flX[qsp.getD i 0]? = some (Cond.exactly (.string RX6 (qsi i)) "java/lang/String") ∧ flX[qsp.getD i 0 + 1]? = some (Cond.eq (.field (.string RX6 (qsi i)) "java/lang/String" "coder" "B") (.int 0)) ∧ flX[qsp.getD i 0 + 2]? = some (Cond.arrayOf (.field (.string RX6 (qsi i)) "java/lang/String" "value" "[B") .byte) ∧ flX[qsp.getD i 0 + 3]? = some (Cond.eq (.length (.field (.string RX6 (qsi i)) "java/lang/String" "value" "[B")) (.int (Int32.ofNat (qsl.getD i 0)))) ∧ lw_tbl[qsr.getD i 0]? = some (Cond.stringRef RX6 (qsi i) (qst.getD i "")) := by decide +kernel
set_option maxRecDepth 100000 in
theorem fk_el : ∀ i, i < 7 → ∀ j, j < qsl.getD i 0 → flX[qsp.getD i 0 + 4 + j]? = some (Cond.eq (.elem (.field (.string RX6 (qsi i)) "java/lang/String" "value" "[B") (.int (Int32.ofNat j))) (.int ((qsb.getD i []).getD j 0))) := by decide +kernel
set_option maxRecDepth 100000 in
theorem fk_ne : ∀ j, j < 7 → ∀ i, i < j → flX[qsp.getD j 0 + 4 + qsl.getD j 0 + i]? = some (Cond.not (Cond.eq (.string RX6 (qsi i)) (.string RX6 (qsi j)))) := by decide +kernel
set_option maxRecDepth 100000 in
theorem fk_dO : ∀ j, j < 100 → flX[14 + j]? = some (Cond.eq (.elem (.static "java/lang/Integer" "DigitOnes" "[B") (.int (Int32.ofNat j))) (.int (qdO j))) := by decide +kernel
set_option maxRecDepth 100000 in
theorem fk_dT : ∀ j, j < 100 → flX[117 + j]? = some (Cond.eq (.elem (.static "java/lang/Integer" "DigitTens" "[B") (.int (Int32.ofNat j))) (.int (qdT j))) := by decide +kernel
set_option maxRecDepth 100000 in
theorem fk_nc : ∀ i, i ∈ [1, 2, 3] → ∀ j, j ∈ [1, 2, 3] → i ≠ j → flX[[0, 230, 231, 220, 0, 221, 240, 241, 0].getD (3 * (j - 1) + (i - 1)) 0]? = some (Cond.not (Cond.castable (qex i) (qex j))) := by decide +kernel
theorem fl_st : ∀ i, i < 7 → Cond.exactly (.string RX6 (qsi i)) "java/lang/String" ∈ flatC (Jvm.Cond.and given_1 narrow_1) ∧ Cond.eq (.field (.string RX6 (qsi i)) "java/lang/String" "coder" "B") (.int 0) ∈ flatC (Jvm.Cond.and given_1 narrow_1) ∧ Cond.arrayOf (.field (.string RX6 (qsi i)) "java/lang/String" "value" "[B") .byte ∈ flatC (Jvm.Cond.and given_1 narrow_1) ∧ Cond.eq (.length (.field (.string RX6 (qsi i)) "java/lang/String" "value" "[B")) (.int (Int32.ofNat (qsl.getD i 0))) ∈ flatC (Jvm.Cond.and given_1 narrow_1) ∧ Cond.stringRef RX6 (qsi i) (qst.getD i "") ∈ lw_tbl :=
  fun i hi => ⟨fl_at _ (fk_st i hi).1, fl_at _ (fk_st i hi).2.1, fl_at _ (fk_st i hi).2.2.1, fl_at _ (fk_st i hi).2.2.2.1, List.mem_of_getElem? (fk_st i hi).2.2.2.2⟩
theorem fl_el : ∀ i, i < 7 → ∀ j, j < qsl.getD i 0 → Cond.eq (.elem (.field (.string RX6 (qsi i)) "java/lang/String" "value" "[B") (.int (Int32.ofNat j))) (.int ((qsb.getD i []).getD j 0)) ∈ flatC (Jvm.Cond.and given_1 narrow_1) := fun i hi j hj => fl_at _ (fk_el i hi j hj)
theorem fl_ne : ∀ i, i < 7 → ∀ j, j < 7 → i ≠ j → Cond.not (Cond.eq (.string RX6 (qsi i)) (.string RX6 (qsi j))) ∈ flatC (Jvm.Cond.and given_1 narrow_1) ∨ Cond.not (Cond.eq (.string RX6 (qsi j)) (.string RX6 (qsi i))) ∈ flatC (Jvm.Cond.and given_1 narrow_1) := fun i hi j hj h => (Nat.lt_or_gt_of_ne h).imp (fun q => fl_at _ (fk_ne j hj i q)) (fun q => fl_at _ (fk_ne i hi j q))
theorem fl_dO : ∀ j, j < 100 → Cond.eq (.elem (.static "java/lang/Integer" "DigitOnes" "[B") (.int (Int32.ofNat j))) (.int (qdO j)) ∈ flatC (Jvm.Cond.and given_1 narrow_1) := fun j hj => fl_at _ (fk_dO j hj)
theorem fl_dT : ∀ j, j < 100 → Cond.eq (.elem (.static "java/lang/Integer" "DigitTens" "[B") (.int (Int32.ofNat j))) (.int (qdT j)) ∈ flatC (Jvm.Cond.and given_1 narrow_1) := fun j hj => fl_at _ (fk_dT j hj)
theorem fl_nc : ∀ i, i ∈ [1, 2, 3] → ∀ j, j ∈ [1, 2, 3] → i ≠ j → Cond.not (Cond.castable (qex i) (qex j)) ∈ flatC (Jvm.Cond.and given_1 narrow_1) := fun i hi j hj h => fl_at _ (fk_nc i hi j hj h)
set_option maxRecDepth 100000 in
set_option maxHeartbeats 4000000 in
theorem ks_start {s : State} {b : Nat} (hts : ∀ w ∈ lw_tbl, w.before #[Value.ref b] s = true) (hgv : (Jvm.Cond.and given_1 narrow_1).before #[Value.ref b] s = true) : ∃ adK : Nat → Nat, ∀ DA : Nat → ClassId, (∀ i, i < 7 → DA (100 + i) = adK i) → KS DA s.heap s := by
  have hA : ∀ a : Nat, a < s.heap.size → ¬ (fun q : Nat => s.heap.size ≤ q) a := fun a h => Nat.not_le.mpr h
  have hf := flat_of_before _ hgv
  obtain ⟨adK, adV, hS, hev⟩ := vk_Sof (args := #[Value.ref b]) (s := s) (N := 7) (tm := fun i => .string RX6 (qsi i)) (len := qsl) (byt := qsb) (A := fun q : Nat => s.heap.size ≤ q) (by decide) (fun i hi => hf _ (fl_st i hi).1) (fun i hi => hf _ (fl_st i hi).2.1) (fun i hi => hf _ (fl_st i hi).2.2.1) (fun i hi => hf _ (fl_st i hi).2.2.2.1) (fun i hi j hj => hf _ (fl_el i hi j hj)) (fun i j hi hj hij => (fl_ne i hi j hj hij).imp (hf _) (hf _)) hA
  obtain ⟨aO, eO, tO⟩ := va_Tof (args := #[Value.ref b]) (s := s) (tm := .static "java/lang/Integer" "DigitOnes" "[B") (ty := .byte) (N := 100) (f := fun j => .int (qdO j)) (A := fun q : Nat => s.heap.size ≤ q) (by decide) (hf (Cond.arrayOf (.static "java/lang/Integer" "DigitOnes" "[B") .byte) (fl_at 12 (by decide +kernel))) (va_eqt (hf (Cond.eq (.length (.static "java/lang/Integer" "DigitOnes" "[B")) (.int (Int32.ofNat 100))) (fl_at 13 (by decide +kernel)))) (fun j hj => va_eqt (hf _ (fl_dO j hj))) hA
  obtain ⟨aT, eT, tT⟩ := va_Tof (args := #[Value.ref b]) (s := s) (tm := .static "java/lang/Integer" "DigitTens" "[B") (ty := .byte) (N := 100) (f := fun j => .int (qdT j)) (A := fun q : Nat => s.heap.size ≤ q) (by decide) (hf (Cond.arrayOf (.static "java/lang/Integer" "DigitTens" "[B") .byte) (fl_at 115 (by decide +kernel))) (va_eqt (hf (Cond.eq (.length (.static "java/lang/Integer" "DigitTens" "[B")) (.int (Int32.ofNat 100))) (fl_at 116 (by decide +kernel)))) (fun j hj => va_eqt (hf _ (fl_dT j hj))) hA
  have z1 := va_Zof (C := "java/lang/String") (n := "COMPACT_STRINGS") (d := "Z") (hts _ (List.mem_of_getElem? (i := 664) (by decide +kernel))) (hts _ (List.mem_of_getElem? (i := 49) (by decide +kernel))) (va_eqi (hf (Cond.eq (.static "java/lang/String" "COMPACT_STRINGS" "Z") (.int 1)) (fl_at 6 (by decide +kernel)))) hA
  have z2 := va_Zof (C := "java/lang/Integer") (n := "DigitOnes") (d := "[B") (hts _ (List.mem_of_getElem? (i := 844) (by decide +kernel))) (hts _ (List.mem_of_getElem? (i := 46) (by decide +kernel))) eO hA
  have z3 := va_Zof (C := "java/lang/Integer") (n := "DigitTens") (d := "[B") (hts _ (List.mem_of_getElem? (i := 846) (by decide +kernel))) (hts _ (List.mem_of_getElem? (i := 46) (by decide +kernel))) eT hA
  have z4 := va_Zqof (C := "jdk/internal/util/Preconditions") (n := "SIOOBE_FORMATTER") (d := "Ljava/util/function/BiFunction;") (hts _ (List.mem_of_getElem? (i := 752) (by decide +kernel))) (hts _ (List.mem_of_getElem? (i := 53) (by decide +kernel))) (hf (Cond.isRef (.static "jdk/internal/util/Preconditions" "SIOOBE_FORMATTER" "Ljava/util/function/BiFunction;")) (fl_at 7 (by decide +kernel))) hA
  refine ⟨adK, fun DA hDA => ⟨adV, aO, aT, ?_, fun i hi => ?_, z1, z2, tO, z3, tT, z4⟩⟩
  · refine ⟨fun i hi => ?_, fun i j hi hj e => hS.2 i j hi hj ((hDA i hi).symm.trans (e.trans (hDA j hj)))⟩
    have q := hS.1 i hi
    rw [← hDA i hi] at q
    exact q
  · rw [hDA i hi]
    exact vk_R.of (A := #[Value.ref b]) (hts _ (fl_st i hi).2.2.2.2) (hev i hi)
set_option maxRecDepth 100000 in
set_option maxHeartbeats 4000000 in
theorem kn_start {s : State} {b : Nat} (hts : ∀ w ∈ lw_tbl, w.before #[Value.ref b] s = true) (hgv : (Jvm.Cond.and given_1 narrow_1).before #[Value.ref b] s = true) : ∃ (D : va_G) (DA : Nat → ClassId), KN D DA s.heap s := by
  have hA : ∀ a : Nat, a < s.heap.size → ¬ (fun q : Nat => s.heap.size ≤ q) a := fun a h => Nat.not_le.mpr h
  have hf := flat_of_before _ hgv
  obtain ⟨adK, hks⟩ := ks_start hts hgv
  obtain ⟨c0, i0, k0⟩ := u_known (C := RJ4) (T := TJ4) (N := 4) (n := 4) hts (fun w h => (inGJ4 w h).1) (hts _ (List.mem_of_getElem? (i := 655) (by decide +kernel)))
  obtain ⟨c1, i1, k1⟩ := u_known (C := RX0) (T := TX0) (N := 7) (n := 7) hts (fun w h => (inG0 w h).1) (hts _ (List.mem_of_getElem? (i := 901) (by decide +kernel)))
  obtain ⟨c2, i2, k2⟩ := u_known (C := RX1) (T := TX1) (N := 12) (n := 12) hts (fun w h => (inG1 w h).1) (hts _ (List.mem_of_getElem? (i := 1189) (by decide +kernel)))
  obtain ⟨c3, i3, k3⟩ := u_known (C := RX2) (T := TX2) (N := 3) (n := 3) hts (fun w h => (inG2 w h).1) (hts _ (List.mem_of_getElem? (i := 91) (by decide +kernel)))
  obtain ⟨c4, i4, k4⟩ := u_known (C := RX3) (T := TX3) (N := 1) (n := 1) hts (fun w h => (inG3 w h).1) (hts _ (List.mem_of_getElem? (i := 1001) (by decide +kernel)))
  obtain ⟨c5, i5, k5⟩ := u_known (C := RX4) (T := TX4) (N := 17) (n := 17) hts (fun w h => (inG4 w h).1) (hts _ (List.mem_of_getElem? (i := 903) (by decide +kernel)))
  obtain ⟨c6, i6, k6⟩ := u_known (C := RX5) (T := TX5) (N := 3) (n := 3) hts (fun w h => (inG5 w h).1) (hts _ (List.mem_of_getElem? (i := 71) (by decide +kernel)))
  obtain ⟨c7, i7, k7⟩ := u_known (C := RX6) (T := TX6) (N := 9) (n := 9) hts (fun w h => (inG6 w h).1) (hts _ (List.mem_of_getElem? (i := 56) (by decide +kernel)))
  obtain ⟨ai, aik, aic, ai1, ai2, ai3⟩ := Cond.arrayClass_spec (args := #[Value.ref b]) (first := s) (o := none) (idx := []) (hts (Cond.arrayClass .int) (List.mem_of_getElem? (i := 89) (by decide +kernel)))
  obtain ⟨ab, abk, abc, ab1, ab2, ab3⟩ := Cond.arrayClass_spec (args := #[Value.ref b]) (first := s) (o := none) (idx := []) (hts (Cond.arrayClass .byte) (List.mem_of_getElem? (i := 90) (by decide +kernel)))
  obtain ⟨a0c, a0, a0k, a01, a02, a03, a04, a05⟩ := Cond.arrayOver_spec (args := #[Value.ref b]) (first := s) (o := none) (idx := []) (hts (Cond.arrayOver (.object RX0)) (List.mem_of_getElem? (i := 68) (by decide +kernel)))
  obtain ⟨a1c, a1, a1k, a11, a12, a13, a14, a15⟩ := Cond.arrayOver_spec (args := #[Value.ref b]) (first := s) (o := none) (idx := []) (hts (Cond.arrayOver (.object RX1)) (List.mem_of_getElem? (i := 70) (by decide +kernel)))
  obtain ⟨a2c, a2, a2k, a21, a22, a23, a24, a25⟩ := Cond.arrayOver_spec (args := #[Value.ref b]) (first := s) (o := none) (idx := []) (hts (Cond.arrayOver (.object RX2)) (List.mem_of_getElem? (i := 66) (by decide +kernel)))
  obtain ⟨a4c, a4, a4k, a41, a42, a43, a44, a45⟩ := Cond.arrayOver_spec (args := #[Value.ref b]) (first := s) (o := none) (idx := []) (hts (Cond.arrayOver (.object RX4)) (List.mem_of_getElem? (i := 999) (by decide +kernel)))
  obtain ⟨a5c, a5, a5k, a51, a52, a53, a54, a55⟩ := Cond.arrayOver_spec (args := #[Value.ref b]) (first := s) (o := none) (idx := []) (hts (Cond.arrayOver (.object RX5)) (List.mem_of_getElem? (i := 64) (by decide +kernel)))
  refine ⟨(fun k => match k with | 0 => c0 | 1 => c1 | 2 => c2 | 3 => c3 | 4 => c4 | 5 => c5 | 6 => c6 | _ => c7, fun k => match k with | 0 => i0 | 1 => i1 | 2 => i2 | 3 => i3 | 4 => i4 | 5 => i5 | 6 => i6 | _ => i7), fun t => if 100 ≤ t then adK (t - 100) else match t with | 0 => ai | 2 => ab | 5 => a0 | 6 => a1 | 7 => a2 | 9 => a4 | _ => a5, ?_, ?_, ?_, ?_, ?_, ?_, ?_⟩
  · intro c q hq
    have hc : c < 8 := (List.getElem?_eq_some_iff.mp hq).1
    rcases (by omega : c = 0 ∨ c = 1 ∨ c = 2 ∨ c = 3 ∨ c = 4 ∨ c = 5 ∨ c = 6 ∨ c = 7) with rfl | rfl | rfl | rfl | rfl | rfl | rfl | rfl <;> cases hq
    · exact k0
    · exact k1
    · exact k2
    · exact k3
    · exact k4
    · exact k5
    · exact k6
    · exact k7
  · intro t ht
    have ht' : t = 0 ∨ t = 2 ∨ t = 5 ∨ t = 6 ∨ t = 7 ∨ t = 9 ∨ t = 10 := by simpa [qats] using ht
    rcases ht' with rfl | rfl | rfl | rfl | rfl | rfl | rfl
    · exact ⟨ar_ok ai2 ai3, ai1⟩
    · exact ⟨ar_ok ab2 ab3, ab1⟩
    · exact ⟨ar_ok a03 a04, a0k, a0c, a03, a04, a01, a05⟩
    · exact ⟨ar_ok a13 a14, a1k, a1c, a13, a14, a11, a15⟩
    · exact ⟨ar_ok a23 a24, a2k, a2c, a23, a24, a21, a25⟩
    · exact ⟨ar_ok a43 a44, a4k, a4c, a43, a44, a41, a45⟩
    · exact ⟨ar_ok a53 a54, a5k, a5c, a53, a54, a51, a55⟩
  · exact vx_Zqof (hts _ (List.mem_of_getElem? (i := 194) (by decide +kernel))) (hts _ (List.mem_of_getElem? (i := 32) (by decide +kernel))) (hf (Cond.isRef (.static Bundle.tN "UNASSIGNED_STACK" Bundle.steD)) (fl_at 4 (by decide +kernel))) hA
  · exact vx_Zqof (hts _ (List.mem_of_getElem? (i := 196) (by decide +kernel))) (hts _ (List.mem_of_getElem? (i := 32) (by decide +kernel))) (hf (Cond.isRef (.static Bundle.tN "SUPPRESSED_SENTINEL" Bundle.listD)) (fl_at 5 (by decide +kernel))) hA
  · intro w hw
    have h1 := hts w (List.mem_filter.mp hw).1
    have hk := (List.mem_filter.mp hw).2
    cases w with
    | methodLinkNest a b c d => exact va_tabs rfl rfl h1
    | castable a b => exact va_tabs rfl rfl h1
    | declares a => exact va_tabs rfl rfl h1
    | privateMethod a => exact va_tabs rfl rfl h1
    | arrayOver t =>
      cases t with
      | object C => exact va_AO.of h1
      | _ => exact absurd hk (by simp [qNk])
    | _ => exact absurd hk (by simp [qNk])
  · exact fun i j hi hj hij => va_Nc.of (hf _ (fl_nc i hi j hj hij))
  · refine hks _ (fun i hi => ?_)
    show (if 100 ≤ 100 + i then adK (100 + i - 100) else _) = adK i
    rw [if_pos (by omega)]
    congr 1
    omega
