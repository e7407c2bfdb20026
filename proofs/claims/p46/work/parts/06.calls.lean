/-! Contracts: a method's answer and what it does to the memory, as a computation. Calls, returns, throws. -/
def encI (v : Int32) : Option Value := some (.int v)
def encL (v : Int64) : Option Value := some (.long v)
def encR (v : Option Nat) : Option Value := some (va_rf v)
def encU (_ : Unit) : Option Value := none
def QcM {α : Type} (D : va_G) (DA : Nat → ClassId) (Hs : Heap) (enc : α → Option Value) (res : Except Nat α × QM) : Array Value → State → Outcome → State → Prop := fun _ st o t =>
  (∃ v, res.1 = .ok v ∧ o = .returned (enc v)) ∧ HR D DA Hs res.2 t.heap ∧ st.heap.size ≤ t.heap.size
def XcM {α : Type} (D : va_G) (DA : Nat → ClassId) (Hs : Heap) (res : Except Nat α × QM) : String → State → State → Prop := fun E st t =>
  (∃ e, res.1 = .error e ∧ E = qex e) ∧ (∃ n, qtop res.2 ≤ n ∧ HR D DA Hs (stop res.2 n) t.heap) ∧ st.heap.size ≤ t.heap.size
def PcM (D : va_G) (DA : Nat → ClassId) (Hs : Heap) (av : List Value) (mm : QM) : Array Value → State → Prop := fun v U => v = av.toArray ∧ HR D DA Hs mm U.heap ∧ KN D DA Hs U
/-- a method's contract: wherever the computation comes to an end, the method comes to the same -/
def MM {α : Type} (y : MethodName) (cc : ByteArray) (maxL : Nat) (ret : Option FieldType) (fr lo mc ms : Nat) (enc : α → Option Value) (av : List Value) (x : QX α) : Prop :=
  ∀ (l : Launch) (D : va_G) (DA : Nat → ClassId) (Hs : Heap) (mm : QM) (res : Except Nat α × QM), l.stackTraces = false → x mm = some res →
    vx_Met l y (.code y cc maxL ret :: qW) { frames := fr, cells := mc, slots := ms, locals := lo } (PcM D DA Hs av mm) (QcM D DA Hs enc res) (XcM D DA Hs res) mc ms (fun q => Hs.size ≤ q)
theorem PcM.blind {D : va_G} {DA : Nat → ClassId} {Hs : Heap} {av : List Value} {mm : QM} : FrameBlind (PcM D DA Hs av mm) := by
  intro a U g mk h
  obtain ⟨h1, h2, h3⟩ := h
  exact ⟨h1, h2, KN.same (u := U) (U := U.calling g mk a) rfl h3⟩
def scat (st : List Value) : Nat := (st.map fun v => v.category).sum
/-- where the method's end is a throw of e -/
def TH (k : QC) (T : Nat → QM → Prop) : Prop := ∀ (e : Nat) (mm : QM) (H : Heap) (locs : List Loc) (ls : Array Slot) (pc : Nat) (rest : List Value) (ce : Cell) (q : Addr) (a b : Nat), T e mm → (ks k).heap.size ≤ H.size → (∃ n, qtop mm ≤ n ∧ HR (kD k) (kDA k) (kHs k) (stop mm n) H) →
  (∀ z ∈ locs, (kHs k).size ≤ z.base) → lv_has ls (knL k) [] → H[q]? = some ce → ce.vm = .none → (ks k).vm.findClass (qex e) = some ce.cls → a ≤ (kR k).cells → b ≤ (kR k).slots →
  vx_W (kp k) (kl k) (ke k) (kR k) (ks k) (km k) (ka k) (kb k) (kmeth k) (kc k) H locs a b (kQ k) (F0 (km k) pc ls rest) q
/-- a method without handlers: what its goal is -/
def CQ {α : Type} (k : QC) (enc : α → Option Value) (res : Except Nat α × QM) : Prop :=
  kQ k = vx_MQ (kb k) (QcM (kD k) (kDA k) (kHs k) enc res) (XcM (kD k) (kDA k) (kHs k) res) (ka k) (ks k) (kR k).cells (kR k).slots (fun q => (kHs k).size ≤ q) ∧
  (∀ x ∈ (kc k).exceptionTable.toList, False) ∧ (kmeth k).locks = false ∧ (kl k).stackTraces = false ∧ ∀ q : Nat, q < (kHs k).size → (ks k).heap[q]? = (kHs k)[q]?
theorem TH_of {α : Type} {k : QC} {enc : α → Option Value} {res : Except Nat α × QM} (C : CQ k enc res) : TH k (fun e m' => res = (.error e, m')) := by
  intro e mm H locs ls pc rest ce q a b hT hz hn hl hls hq hv hc ha hb
  rw [C.1]
  subst hT
  exact vx_out (fun x hx => absurd (C.2.1 x hx) id) C.2.2.1 hq hv hc (fun t ht _ => ⟨⟨e, rfl, rfl⟩, by rw [ht]; exact hn, by rw [ht]; exact hz⟩) hl ha hb
/-- the words that every call of a method wants -/
def LK (y : MethodName) (cc : ByteArray) (maxL : Nat) (ret : Option FieldType) (n : Nat) : Prop :=
  Cond.code y cc maxL ret ∈ qW ∧ Cond.initialized y.cls ∈ qW ∧ (y.cls ≠ "java/lang/invoke/MethodHandle" ∧ y.cls ≠ "java/lang/invoke/VarHandle" ∧ (parseMethodDescriptor y.desc).map (fun d => d.parameters.length) = some n)
theorem qW_good {w : Cond} (h : w ∈ qW) : (w.onTables && w.keeps) = true ∨ ∃ ty, w = .arrayClass ty := good_of_word (List.mem_filter.mp h).2
theorem LK.good {y : MethodName} {cc : ByteArray} {maxL : Nat} {ret : Option FieldType} {n : Nat} (L : LK y cc maxL ret n) : GoodIn qW (.code y cc maxL ret :: qW) := fun w hw => by
  rcases List.mem_cons.mp hw with rfl | h
  · exact ⟨L.1, qW_good L.1⟩
  · exact ⟨h, qW_good h⟩
section R6
variable {k : QC} {cc : ByteArray} {own : String} {env env' : List (Nat × Value)} {st : List Value} {mm : QM} {pc a b : Nat} {T : Nat → QM → Prop}
theorem CX.fix (X : CX k cc own) : CallFix (kp k) (km k) (kc k) cc (knL k) (ks k) (ka k) qW own := ⟨X.1, X.2.1, X.2.2.1, X.2.2.2.1, fun w hw => X.2.2.2.2.1 w hw⟩
theorem GG_run {α : Type} {enc : α → Option Value} {res : Except Nat α × QM} {mc ms : Nat} {st0 rest : List Value} {As : Array Value} (hT : TH k T) (hf : a + mc ≤ (kR k).cells ∧ b + ms ≤ (kR k).slots)
    (hr : ∀ (H : Heap) (locs : List Loc) (ls : Array Slot), HR (kD k) (kDA k) (kHs k) mm H → lv_has ls (knL k) env →
      vx_Run (kp k) (kl k) (ke k) (kR k) (ks k) (km k) (ka k) (kb k) (kmeth k) (kc k) H locs a b mc ms (F0 (km k) pc ls st0) rest (QcM (kD k) (kDA k) (kHs k) enc res As) (XcM (kD k) (kDA k) (kHs k) res) (fun q => (kHs k).size ≤ q))
    (hk : qwp (fun _ => some res) (fun v m' => GG k env ((enc v).toList ++ rest) m' (pc + 3) (a + mc) (b + ms)) T mm) : GG k env st0 mm pc a b := by
  intro H locs ls z hR hl hls U hU X'
  obtain ⟨r1, r2⟩ := res
  have hl' : ∀ L : List Loc, (∀ q ∈ L, (kHs k).size ≤ q.base) → ∀ q ∈ locs ++ L, (kHs k).size ≤ q.base := fun L hL q hq => by
    rcases List.mem_append.mp hq with h | h
    · exact hl q h
    · exact hL q h
  rcases hr H locs ls hR hls U hU X' with ⟨v, st₀, t, T', L, h0, X'', hL, e1, e2, ⟨⟨v', hv1, hv2⟩, hq2, hq3⟩, hst⟩ | ⟨q, st₀, t, T', L, E, ce, h0, X'', hL, e1, e2, ⟨⟨e, he1, rfl⟩, hx2, hx3⟩, hce, hcv, hcl, hst⟩
  · cases hv1
    cases hv2
    have hk' : GG k env ((enc v').toList ++ rest) r2 (pc + 3) (a + mc) (b + ms) := hk
    obtain ⟨t2, a1, b1⟩ := hk' T'.heap (locs ++ L) ls (by rw [e1]; rw [h0] at hq3; omega) (by rw [e1]; exact hq2) (hl' L hL) hls T' rfl X''
    exact ⟨t2, hst t2 a1, b1⟩
  · cases he1
    have hk' : T e r2 := hk
    obtain ⟨t2, a1, b1⟩ := hT e r2 T'.heap (locs ++ L) ls pc rest ce q (a + mc) (b + ms) hk' (by rw [e1]; rw [h0] at hx3; omega) (by rw [e1]; exact hx2) (hl' L hL) (lv_sub hls [] rfl) (by rw [e1]; exact hce) hcv hcl hf.1 hf.2 T' rfl X''
    exact ⟨t2, hst.trans a1, b1⟩
theorem g_callS {α : Type} {enc : α → Option Value} {x : QX α} {y : MethodName} {c2 : ByteArray} {maxL fr lo mc ms n i : Nat} {ret : Option FieldType} {av : List Value} (X : CX k cc own) (hT : TH k T) (htr : (kl k).stackTraces = false) (M : MM y c2 maxL ret fr lo mc ms enc av x) (L : LK y c2 maxL ret n) (hs : Cond.static y ∈ qW) (hl : Cond.methodLink own i y ∈ qW) (hn : av.length = n)
    (hroom : fr + 1 ≤ (kR k).frames ∧ 8 + (maxL + 11) + lo ≤ (kR k).locals) (hst : scat st ≤ 8) (hf : a + mc ≤ (kR k).cells ∧ b + ms ≤ (kR k).slots) (hdg : decode cc pc = .ok (.invokestatic i, 3)) (h : qwp x (fun v m' => GG k env ((enc v).toList ++ st) m' (pc + 3) (a + mc) (b + ms)) T mm) : GG k env (av.reverse ++ st) mm pc a b := by
  unfold qwp at h
  cases hx : x mm with
  | none => rw [hx] at h; exact h.elim
  | some res =>
    rw [hx] at h
    have ht := X.2.2.2.2.1
    refine GG_run (As := av.toArray) hT hf (fun H locs ls hR hls => ?_) h
    exact vx_runS (As := av) (g := F0 (km k) pc ls (av.reverse ++ st)) X.fix (M (kl k) (kD k) (kDA k) (kHs k) mm res htr hx) ⟨callB_of n ht L.good rfl rfl rfl (ht _ L.2.1) (ht _ hl) L.2.2 hroom, ht _ hs⟩
      ⟨PcM.blind, fun U hU hW => ⟨rfl, by rw [hU]; exact hR, KN.moved hW X.2.2.2.2.2⟩⟩ rfl hn hls.1 rfl (lv_room hst) hdg hf
theorem g_callV {α : Type} {enc : α → Option Value} {x : QX α} {y : MethodName} {c2 : ByteArray} {maxL fr lo mc ms n i q cI : Nat} {C : String} {Tt : u_T} {N : Nat} {ret : Option FieldType} {av : List Value} (X : CX k cc own) (hT : TH k T) (htr : (kl k).stackTraces = false) (hcl : vwCl[cI]? = some (C, Tt, N)) (hq : qty mm q = (1, cI, 0)) (M : MM y c2 maxL ret fr lo mc ms enc (.ref q :: av) x) (L : LK y c2 maxL ret n) (hin : Cond.instanceMethod y ∈ qW) (hse : Cond.selects C y y ∈ qW) (hl : Cond.methodLink own i y ∈ qW) (hn : av.length = n)
    (hroom : fr + 1 ≤ (kR k).frames ∧ 8 + (maxL + 11) + lo ≤ (kR k).locals) (hst : scat st ≤ 8) (hf : a + mc ≤ (kR k).cells ∧ b + ms ≤ (kR k).slots) (hdg : decode cc pc = .ok (.invokevirtual i, 3)) (h : qwp x (fun v m' => GG k env ((enc v).toList ++ st) m' (pc + 3) (a + mc) (b + ms)) T mm) : GG k env (av.reverse ++ .ref q :: st) mm pc a b := by
  unfold qwp at h
  cases hx : x mm with
  | none => rw [hx] at h; exact h.elim
  | some res =>
    rw [hx] at h
    have ht := X.2.2.2.2.1
    refine GG_run (As := (Value.ref q :: av).toArray) hT hf (fun H locs ls hR hls => ?_) h
    obtain ⟨-, -, c1⟩ := hR.2.2.2 q (by rw [hq]; exact Nat.one_ne_zero)
    obtain ⟨r, h1, cellB, g1, g2, g3, -⟩ := c1.1 (by rw [hq])
    rw [hq] at h1 g2
    have hcls := (X.kn hcl).2.1
    exact vx_runV (As := av) (g := F0 (km k) pc ls (av.reverse ++ .ref q :: st)) (C := C) X.fix (M (kl k) (kD k) (kDA k) (kHs k) mm res htr hx) ⟨callB_of n ht L.good rfl rfl rfl (ht _ L.2.1) (ht _ hl) L.2.2 hroom, ht _ hin, ht _ hse⟩
      ⟨PcM.blind, ⟨cellB, g1, by rw [g3]; rfl, by rw [g2]; exact hcls⟩, fun U hU hW => ⟨rfl, by rw [hU]; exact hR, KN.moved hW X.2.2.2.2.2⟩⟩ rfl hn hls.1 rfl (lv_room hst) hdg hf
theorem g_callI {α : Type} {enc : α → Option Value} {x : QX α} {y : MethodName} {c2 : ByteArray} {maxL fr lo mc ms n i q : Nat} {av : List Value} (X : CX k cc own) (hT : TH k T) (htr : (kl k).stackTraces = false) (M : MM y c2 maxL none fr lo mc ms enc (.ref q :: av) x) (L : LK y c2 maxL none n) (hin : Cond.instanceMethod y ∈ qW) (hy : y.name = "<init>") (hl : Cond.methodLink own i y ∈ qW) (hn : av.length = n)
    (hroom : fr + 1 ≤ (kR k).frames ∧ 8 + (maxL + 11) + lo ≤ (kR k).locals) (hst : scat st ≤ 8) (hf : a + mc ≤ (kR k).cells ∧ b + ms ≤ (kR k).slots) (hdg : decode cc pc = .ok (.invokespecial i, 3)) (h : qwp x (fun v m' => GG k env ((enc v).toList ++ st) m' (pc + 3) (a + mc) (b + ms)) T mm) : GG k env (av.reverse ++ .ref q :: st) mm pc a b := by
  unfold qwp at h
  cases hx : x mm with
  | none => rw [hx] at h; exact h.elim
  | some res =>
    rw [hx] at h
    have ht := X.2.2.2.2.1
    refine GG_run (As := (Value.ref q :: av).toArray) hT hf (fun H locs ls hR hls => ?_) h
    exact vx_runI (As := av) (g := F0 (km k) pc ls (av.reverse ++ .ref q :: st)) X.fix (M (kl k) (kD k) (kDA k) (kHs k) mm res htr hx) ⟨callB_of n ht L.good rfl rfl rfl (ht _ L.2.1) (ht _ hl) L.2.2 hroom, hy, ht _ hin⟩
      ⟨PcM.blind, fun U hU hW => ⟨rfl, by rw [hU]; exact hR, KN.moved hW X.2.2.2.2.2⟩⟩ rfl hn hls.1 rfl (lv_room hst) hdg hf
theorem g_callSN {α : Type} {enc : α → Option Value} {x : QX α} {y : MethodName} {c2 : ByteArray} {host : String} {maxL fr lo mc ms n i : Nat} {ret : Option FieldType} {av : List Value} (X : CX k cc own) (hT : TH k T) (htr : (kl k).stackTraces = false) (M : MM y c2 maxL ret fr lo mc ms enc av x) (L : LK y c2 maxL ret n) (hs : Cond.static y ∈ qW) (hl : Cond.methodLinkNest own i y host ∈ qN) (hn : av.length = n)
    (hroom : fr + 1 ≤ (kR k).frames ∧ 8 + (maxL + 11) + lo ≤ (kR k).locals) (hst : scat st ≤ 8) (hf : a + mc ≤ (kR k).cells ∧ b + ms ≤ (kR k).slots) (hdg : decode cc pc = .ok (.invokestatic i, 3)) (h : qwp x (fun v m' => GG k env ((enc v).toList ++ st) m' (pc + 3) (a + mc) (b + ms)) T mm) : GG k env (av.reverse ++ st) mm pc a b := by
  unfold qwp at h
  cases hx : x mm with
  | none => rw [hx] at h; exact h.elim
  | some res =>
    rw [hx] at h
    have ht := X.2.2.2.2.1
    refine GG_run (As := av.toArray) hT hf (fun H locs ls hR hls => ?_) h
    exact vx_runSN (As := av) (g := F0 (km k) pc ls (av.reverse ++ st)) X.fix (M (kl k) (kD k) (kDA k) (kHs k) mm res htr hx) ⟨va_cnB n ht L.good rfl rfl rfl (X.2.2.2.2.2.word hl) (ht _ L.2.1) L.2.2 hroom, ht _ hs, trivial⟩
      ⟨PcM.blind, fun U hU hW => ⟨rfl, by rw [hU]; exact hR, KN.moved hW X.2.2.2.2.2⟩⟩ rfl hn hls.1 rfl (lv_room hst) hdg hf
theorem g_callIN {α : Type} {enc : α → Option Value} {x : QX α} {y : MethodName} {c2 : ByteArray} {host : String} {maxL fr lo mc ms n i q : Nat} {av : List Value} (X : CX k cc own) (hT : TH k T) (htr : (kl k).stackTraces = false) (M : MM y c2 maxL none fr lo mc ms enc (.ref q :: av) x) (L : LK y c2 maxL none n) (hin : Cond.instanceMethod y ∈ qW) (hy : y.name = "<init>") (hl : Cond.methodLinkNest own i y host ∈ qN) (hn : av.length = n)
    (hroom : fr + 1 ≤ (kR k).frames ∧ 8 + (maxL + 11) + lo ≤ (kR k).locals) (hst : scat st ≤ 8) (hf : a + mc ≤ (kR k).cells ∧ b + ms ≤ (kR k).slots) (hdg : decode cc pc = .ok (.invokespecial i, 3)) (h : qwp x (fun v m' => GG k env ((enc v).toList ++ st) m' (pc + 3) (a + mc) (b + ms)) T mm) : GG k env (av.reverse ++ .ref q :: st) mm pc a b := by
  unfold qwp at h
  cases hx : x mm with
  | none => rw [hx] at h; exact h.elim
  | some res =>
    rw [hx] at h
    have ht := X.2.2.2.2.1
    refine GG_run (As := (Value.ref q :: av).toArray) hT hf (fun H locs ls hR hls => ?_) h
    exact vx_runIN (As := av) (g := F0 (km k) pc ls (av.reverse ++ .ref q :: st)) X.fix (M (kl k) (kD k) (kDA k) (kHs k) mm res htr hx) ⟨va_cnB n ht L.good rfl rfl rfl (X.2.2.2.2.2.word hl) (ht _ L.2.1) L.2.2 hroom, hy, ht _ hin⟩
      ⟨PcM.blind, fun U hU hW => ⟨rfl, by rw [hU]; exact hR, KN.moved hW X.2.2.2.2.2⟩⟩ rfl hn hls.1 rfl (lv_room hst) hdg hf
theorem g_objinit {i q : Nat} (X : CX k cc own) (hl : Cond.methodLink own i Lib.objectInit ∈ qW) (hin : Cond.instanceMethod Lib.objectInit ∈ qW) (hcode : Cond.code Lib.objectInit ⟨#[0xb1]⟩ 1 none ∈ qW) (hf : 1 ≤ (kR k).frames) (hlo : scat st + 12 ≤ (kR k).locals) (hdg : decode cc pc = .ok (.invokespecial i, 3)) (h : GG k env st mm (pc + 3) a b) : GG k env (.ref q :: st) mm pc a b :=
  fun H locs ls z hR hl' hls => W.objInit X.1 X.2.1 X.2.2.2.1 (X.2.2.2.2.1 _ hl) (X.2.2.2.2.1 _ hin) (X.2.2.2.2.1 _ hcode) (g := F0 (km k) pc ls (.ref q :: st)) rfl (by rw [X.2.2.1]; exact hls.1) rfl hdg hf (by show 2 * 0 + scat st + 12 ≤ _; omega) (h H locs ls z hR hl' hls)
theorem g_max {i : Nat} {x y : Int32} (X : CX k cc own) (hl : Cond.methodLink own i Lib.Math.max.name ∈ qW) (hst : Cond.static Lib.Math.max.name ∈ qW) (hini : Cond.initialized "java/lang/Math" ∈ qW) (hcode : Cond.code Lib.Math.max.name Lib.Math.max.code 2 (some .int) ∈ qW) (hf : 1 ≤ (kR k).frames) (hlo : scat st + 13 ≤ (kR k).locals) (hc : a ≤ (kR k).cells) (hs : b ≤ (kR k).slots) (hdg : decode cc pc = .ok (.invokestatic i, 3)) (h : GG k env (.int (if x < y then y else x) :: st) mm (pc + 3) a b) : GG k env (.int y :: .int x :: st) mm pc a b :=
  fun H locs ls z hR hl' hls => va_mmax X.1 X.2.1 (by rw [X.2.2.1]; exact hls.1.symm) X.2.2.2.1 (X.2.2.2.2.1 _ hl) (X.2.2.2.2.1 _ hst) (X.2.2.2.2.1 _ hini) (X.2.2.2.2.1 _ hcode) hf hlo hc hs hdg (h H locs ls z hR hl' hls)
/- the ends -/
theorem g_iret {res : Except Nat Int32 × QM} {v : Int32} {ty : FieldType} (X : CX k cc own) (C : CQ k encI res) (hr : (kmeth k).sig.returnType = some ty) (hn : narrow ty (.int v) = .int v) (hdg : decode cc pc = .ok (.ireturn, 1)) (ha : a ≤ (kR k).cells) (hb : b ≤ (kR k).slots) (h : res = (.ok v, mm)) : GG k env [.int v] mm pc a b := by
  intro H locs ls z hR hl hls
  rw [C.1]
  subst h
  exact vx_ret (W.widen ha hb (W.zret X.1 X.2.1 hr hn (fun t ht _ => ⟨⟨v, rfl, rfl⟩, by rw [ht]; exact hR, by rw [ht]; exact z⟩) hl hdg (hlocks := C.2.2.1)))
theorem g_lret {res : Except Nat Int64 × QM} {v : Int64} (X : CX k cc own) (C : CQ k encL res) (hr : (kmeth k).sig.returnType = some .long) (hdg : decode cc pc = .ok (.lreturn, 1)) (ha : a ≤ (kR k).cells) (hb : b ≤ (kR k).slots) (h : res = (.ok v, mm)) : GG k env [.long v] mm pc a b := by
  intro H locs ls z hR hl hls
  rw [C.1]
  subst h
  exact vx_ret (W.widen ha hb (W.lret X.1 X.2.1 hr (fun t ht _ => ⟨⟨v, rfl, rfl⟩, by rw [ht]; exact hR, by rw [ht]; exact z⟩) hl hdg (hlocks := C.2.2.1)))
theorem g_aret {res : Except Nat (Option Nat) × QM} {v : Option Nat} {rt : FieldType} (X : CX k cc own) (C : CQ k encR res) (hr : (kmeth k).sig.returnType = some rt) (hrt : (∃ n, rt = .object n) ∨ ∃ t, rt = .array t) (hdg : decode cc pc = .ok (.areturn, 1)) (ha : a ≤ (kR k).cells) (hb : b ≤ (kR k).slots) (h : res = (.ok v, mm)) : GG k env [va_rf v] mm pc a b := by
  intro H locs ls z hR hl hls
  rw [C.1]
  subst h
  exact vx_ret (W.widen ha hb (W.aret X.1 X.2.1 hr hrt (va_rf_or v) (fun t ht _ => ⟨⟨v, rfl, rfl⟩, by rw [ht]; exact hR, by rw [ht]; exact z⟩) hl hdg (hlocks := C.2.2.1)))
theorem g_vret {res : Except Nat Unit × QM} (X : CX k cc own) (C : CQ k encU res) (hr : (kmeth k).sig.returnType = none) (hdg : decode cc pc = .ok (.return_, 1)) (ha : a ≤ (kR k).cells) (hb : b ≤ (kR k).slots) (h : res = (.ok (), mm)) : GG k env [] mm pc a b := by
  intro H locs ls z hR hl hls
  rw [C.1]
  subst h
  exact vx_ret (W.widen ha hb (W.vret X.1 X.2.1 hr (fun t ht _ => ⟨⟨(), rfl, rfl⟩, by rw [ht]; exact hR, by rw [ht]; exact z⟩) hl hdg (hlocks := C.2.2.1)))
def qnm : List String := ["java/lang/RuntimeException", "java/lang/Exception"]
theorem g_throw {α : Type} {enc : α → Option Value} {res : Except Nat α × QM} {ik ic e : Nat} (X : CX k cc own) (C : CQ k enc res) (hcls : Bundle.fit (qex e) = true) (hk : Cond.classLink own ik (qex e) ∈ qW) (hini : Cond.initialized (qex e) ∈ qW) (hat : ∀ w ∈ vx_at0 own ic (qex e) qnm, w ∈ qW ∨ w ∈ qN) (hgood : ∀ w ∈ Cond.classLink own ik (qex e) :: Cond.initialized (qex e) :: vx_at0 own ic (qex e) qnm, vx_ot w = true)
    (hf : 6 ≤ (kR k).frames) (hlo : scat st + 81 ≤ (kR k).locals) (hc : a + 1 ≤ (kR k).cells) (hs : b + 6 ≤ (kR k).slots) (d0 : decode cc pc = .ok (.new ik, 3)) (d3 : decode cc (pc + 3) = .ok (.dup, 1)) (d4 : decode cc (pc + 4) = .ok (.invokespecial ic, 3)) (d7 : decode cc (pc + 7) = .ok (.athrow, 1)) (h : res = (.error e, mm)) : GG k env st mm pc a b := by
  intro H locs ls z hR hl hls
  rw [C.1]
  subst h
  have hK := X.2.2.2.2.2
  have hold : ∀ q : Nat, q < (kHs k).size → ¬ (fun q => (kHs k).size ≤ q) q → (ks k).heap[q]? = (kHs k)[q]? := fun q hq _ => C.2.2.2.2 q hq
  refine vx_throw0 (A := fun q => (kHs k).size ≤ q) (names := qnm) X.1 X.2.1 C.2.2.2.1 X.2.2.2.1 hcls (by decide) (X.2.2.2.2.1 _ hk) (X.2.2.2.2.1 _ hini) (fun w hw => (hat w hw).elim (X.2.2.2.2.1 w) (fun h => hK.word h)) hgood (hK.2.2.1.kept hold) (hK.2.2.2.1.kept hold)
    ⟨z, fun q h1 h2 => (hR.2.2.1 q (Nat.not_le.mp h2)).trans (C.2.2.2.2 q (Nat.not_le.mp h2)).symm, hl⟩ (by rw [X.2.2.1]; exact hls.1) d0 d3 d4 d7 (fun x hx => absurd (C.2.1 x hx) id) hf (by show scat st + (13 * 3 + 42) ≤ _; omega) hc hs C.2.2.1 (fun t _ h1 h2 => ⟨⟨e, rfl, rfl⟩, ⟨t.heap.size, by have := hR.2.1; show qtop mm ≤ _; omega, hR.later h1 h2⟩, by omega⟩) hl hc hs
end R6
/-- a contract out of its walk -/
theorem MM_of {α : Type} {y : MethodName} {cc : ByteArray} {maxL : Nat} {ret : Option FieldType} {fr lo mc ms : Nat} {enc : α → Option Value} {av : List Value} {x : QX α} {env0 : List (Nat × Value)} (hy : plainName y.cls = true) (hlen : (lg_sl av).length ≤ maxL) (hargs : lv_args 0 av = env0)
    (body : ∀ (k : QC) (mm : QM) (res : Except Nat α × QM), CX k cc y.cls → CQ k enc res → kR k = { frames := fr, cells := mc, slots := ms, locals := lo } → knL k = maxL → (kmeth k).sig.returnType = ret → (kmeth k).name = y.name → qwp x (fun v m' => res = (.ok v, m')) (fun e m' => res = (.error e, m')) mm → GG k env0 [] mm 0 0 0) :
    MM y cc maxL ret fr lo mc ms enc av x := by
  intro l D DA Hs mm res htr hx
  refine vx_ofW hy rfl ?_
  intro p e s m args below meth c s₁ B hml htab hP
  obtain ⟨rfl, hR, hK⟩ := hP
  have hts : ∀ w ∈ qW, w.before av.toArray s = true := fun w hw => atoms_spec (ws := .code y cc maxL ret :: qW) B.pre w (List.mem_cons_of_mem _ hw)
  have hl := lv_entry av (n := maxL) hlen
  rw [lg_entry_eq]
  rw [hargs] at hl
  exact body (p, l, e, _, s, m, av.toArray, below, meth, c, _, D, DA, Hs, maxL) mm res ⟨B.exec, B.bytes, hml, findClass_of_methodNamed B.named, hts, hK⟩ ⟨rfl, htab, B.notSynchronized, htr, hR.2.2.1⟩ rfl rfl B.returns (name_of_methodNamed B.named B.method).1 (qwp_of hx)
    s.heap [] _ (Nat.le_refl _) hR (fun z hz => by cases hz) hl
