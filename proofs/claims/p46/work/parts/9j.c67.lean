/-! methods with handlers -/
section C67
variable {sv : Nat} {G : GM} {S S' : MS} {m m' : QM} {t : Int}
theorem CR.fw (h : CR sv G S m) (f1 : qtop m' = qtop m) (f2 : ∀ b, qty m' b = qty m b) (f3 : ∀ f b, (b < sv + 20 ∨ sv + 23 ≤ b) → qfi m' f b = qfi m f b) (f4 : ∀ f b, qfl m' f b = qfl m f b) (f5 : ∀ f b, qfr m' f b = qfr m f b) (f6 : ∀ b, (b < sv + 20 ∨ sv + 23 ≤ b) → qai m' b = qai m b) (f8 : ∀ b, qar m' b = qar m b) : CR sv G S m' := by
  have ty : qty m' = qty m := funext f2
  have fr : qfr m' = qfr m := funext fun a => funext fun b => f5 a b
  have ar : qar m' = qar m := funext f8
  have fl : qfl m' = qfl m := funext fun a => funext fun b => f4 a b
  have im : IML sv m m' := ⟨by omega, fun b _ _ => f2 b, fun a b _ _ x _ => f3 a b (by omega), fun a b _ _ _ _ => f4 a b, fun a b _ _ _ _ => f5 a b, fun b x _ => f6 b (by omega)⟩
  have hcf : CF sv m' := by
    have := h.cf
    unfold CF at this ⊢
    rw [f1, ty, fr, ar]; exact this
  have zb : ∀ z : Int, 0 ≤ z → z < 3 → zA sv z < sv + 20 := fun z _ _ => by unfold zA; omega
  have pb : ∀ p : Int, 0 ≤ p → p < 5 → pA sv p + 1 < sv + 20 := fun p _ _ => by unfold pA; omega
  refine ⟨hcf, (f3 _ _ (by omega)).trans h.f4, (f3 _ _ (by omega)).trans h.f5, (f3 _ _ (by omega)).trans h.f6, fun z x y => (f3 _ _ (Or.inl (zb z x y))).trans (h.z0 z x y), fun z x y => (f3 _ _ (Or.inl (zb z x y))).trans (h.z1 z x y), fun z x y w => (f3 _ _ (Or.inl (zb z x y))).trans (h.z2 z x y w), fun p x y => (f3 _ _ (by have := pb p x y; omega)).trans (h.p0 p x y), fun p x y => (f3 _ _ (by have := pb p x y; omega)).trans (h.p1 p x y), fun p i x y z w => by rw [f6 _ (Or.inl (pb p x y))]; exact h.pe p i x y z w, fun i x y => ?_, h.mi, fun k x y => ?_, h.gi⟩
  · have hm := h.mt i x y
    have lo := hm.lo
    exact hm.frL im (fun b u v => ⟨f2 b, fun g _ => ⟨f3 g b (by omega), f5 g b⟩, f8 b⟩) (by rw [ar]) rfl rfl (fun _ _ _ => rfl) rfl rfl rfl (fun _ _ _ => rfl) (SV.refl _ _) (fun _ _ _ _ => SV.refl _ _) (fun _ _ _ _ _ _ => rfl) (fun _ _ _ _ _ _ => rfl)
  · have hg := h.mg k x y
    have lo := hg.lo
    exact hg.frL im (f2 _) (fun g _ => ⟨f3 g _ (by omega), f5 g _⟩) (by rw [ar]) rfl rfl rfl (fun _ _ _ => rfl) (fun _ => SV.refl _ _)
theorem GROW.stopr {n : Nat} (h : qtop m ≤ n) : GROW m (stop m n) := ⟨h, fun _ _ => rfl, fun _ _ _ => rfl, fun _ _ _ => rfl, fun _ _ _ => rfl, fun _ _ => rfl, fun _ _ => rfl, fun _ _ => rfl⟩
end C67
/-! handlers -/
def MEH (y : MethodName) (cc : ByteArray) (maxL : Nat) (ret : Option FieldType) (hh : List (Nat × Nat × Nat × Nat)) (fr lo mc ms : Nat) (av : (Nat → ClassId) → List Value) (P : (Nat → ClassId) → QM → RX → Prop) : Prop :=
  ∀ (l : Launch) (D : va_G) (DA : Nat → ClassId) (Hs : Heap) (mm : QM) (R : RX), l.stackTraces = false → P DA mm R →
    vx_Met l y (.codeWith y cc maxL ret hh :: qW) { frames := fr, cells := mc, slots := ms, locals := lo } (PcM D DA Hs (av DA) mm) (QcE D DA Hs R) (XcE D DA Hs R) mc ms (fun q => Hs.size ≤ q)
def CQH (k : QC) (hh : List (Nat × Nat × Nat × Nat)) (R : RX) : Prop :=
  kQ k = vx_MQ (kb k) (QcE (kD k) (kDA k) (kHs k) R) (XcE (kD k) (kDA k) (kHs k) R) (ka k) (ks k) (kR k).cells (kR k).slots (fun q => (kHs k).size ≤ q) ∧
  (kc k).exceptionTable.toList = tableOf hh ∧ (kmeth k).locks = false ∧ (kl k).stackTraces = false ∧ ∀ q : Nat, q < (kHs k).size → (ks k).heap[q]? = (kHs k)[q]?
theorem MEH_of {y : MethodName} {cc : ByteArray} {maxL : Nat} {ret : Option FieldType} {hh : List (Nat × Nat × Nat × Nat)} {fr lo mc ms : Nat} {av : (Nat → ClassId) → List Value} {P : (Nat → ClassId) → QM → RX → Prop} {env0 : (Nat → ClassId) → List (Nat × Value)} (hy : plainName y.cls = true) (hlen : ∀ DA, (lg_sl (av DA)).length ≤ maxL) (hargs : ∀ DA, lv_args 0 (av DA) = env0 DA)
    (body : ∀ (k : QC) (mm : QM) (R : RX), CX k cc y.cls → CQH k hh R → kR k = { frames := fr, cells := mc, slots := ms, locals := lo } → knL k = maxL → (kmeth k).sig.returnType = ret → (kmeth k).name = y.name → P (kDA k) mm R → GG k (env0 (kDA k)) [] mm 0 0 0) :
    MEH y cc maxL ret hh fr lo mc ms av P := by
  intro l D DA Hs mm R htr hP0
  refine vx_ofWH hy rfl ?_
  intro p e s m args below meth c s₁ B hml hP
  obtain ⟨rfl, hR, hK⟩ := hP
  have hts : ∀ w ∈ qW, w.before (av DA).toArray s = true := fun w hw => atoms_spec (ws := .codeWith y cc maxL ret hh :: qW) B.pre w (List.mem_cons_of_mem _ hw)
  have htab := vx_table (x := y) B (atoms_spec (ws := .codeWith y cc maxL ret hh :: qW) B.pre _ List.mem_cons_self)
  have hl := lv_entry (av DA) (n := maxL) (hlen DA)
  rw [lg_entry_eq]
  rw [hargs] at hl
  exact body (p, l, e, _, s, m, (av DA).toArray, below, meth, c, _, D, DA, Hs, maxL) mm R ⟨B.exec, B.bytes, hml, findClass_of_methodNamed B.named, hts, hK⟩ ⟨rfl, htab, B.notSynchronized, htr, hR.2.2.1⟩ rfl rfl B.returns (name_of_methodNamed B.named B.method).1 hP0
    s.heap [] _ (Nat.le_refl _) hR (fun z hz => by cases hz) hl
/-- where a throw at this place ends -/
def THp (k : QC) (pc : Nat) (T : Nat → QM → Prop) : Prop := ∀ (e : Nat) (mm : QM) (H : Heap) (locs : List Loc) (ls : Array Slot) (rest : List Value) (ce : Cell) (q : Addr) (a b : Nat), T e mm → (ks k).heap.size ≤ H.size → (∃ n, qtop mm ≤ n ∧ HR (kD k) (kDA k) (kHs k) (stop mm n) H) →
  (∀ z ∈ locs, (kHs k).size ≤ z.base) → lv_has ls (knL k) [] → H[q]? = some ce → ce.vm = .none → (ks k).vm.findClass (qex e) = some ce.cls → a ≤ (kR k).cells → b ≤ (kR k).slots →
  vx_W (kp k) (kl k) (ke k) (kR k) (ks k) (km k) (ka k) (kb k) (kmeth k) (kc k) H locs a b (kQ k) (F0 (km k) pc ls rest) q
section C67b
variable {k : QC} {cc : ByteArray} {own : String} {env env' : List (Nat × Value)} {st st0 : List Value} {mm : QM} {pc a b : Nat} {T : Nat → QM → Prop}
theorem t_catch {hh pre suf : List (Nat × Nat × Nat × Nat)} {s0 e0 hp ct e : Nat} (X : CX k cc own) (htab : (kc k).exceptionTable.toList = tableOf hh) (hsp : hh = pre ++ (s0, e0, hp, ct) :: suf) (he : e ∈ [1, 2, 3]) (hcov : s0 ≤ pc ∧ pc < e0) (hct : ct ≠ 0) (hl : Cond.classLink own ct (qex e) ∈ qW) (hcast : Cond.castable (qex e) (qex e) ∈ qN)
    (hpre : ∀ z ∈ pre, z.2.2.2 ≠ 0 ∧ ∃ i, i ∈ [1, 2, 3] ∧ e ≠ i ∧ Cond.classLink own z.2.2.2 (qex i) ∈ qW) (hg : ∀ q n a b, qtop mm ≤ n → a ≤ (kR k).cells → b ≤ (kR k).slots → GG k [] [.ref q] (stop mm n) hp a b) :
    ∀ (H : Heap) (locs : List Loc) (ls : Array Slot) (rest : List Value) (ce : Cell) (q : Addr) (a b : Nat), (ks k).heap.size ≤ H.size → (∃ n, qtop mm ≤ n ∧ HR (kD k) (kDA k) (kHs k) (stop mm n) H) →
      (∀ z ∈ locs, (kHs k).size ≤ z.base) → lv_has ls (knL k) [] → H[q]? = some ce → ce.vm = .none → (ks k).vm.findClass (qex e) = some ce.cls → a ≤ (kR k).cells → b ≤ (kR k).slots →
      vx_W (kp k) (kl k) (ke k) (kR k) (ks k) (km k) (ka k) (kb k) (kmeth k) (kc k) H locs a b (kQ k) (F0 (km k) pc ls rest) q := by
  intro H locs ls rest ce q a b z hn hl' hls hq hv hc ha hb
  obtain ⟨n, hn, hH⟩ := hn
  refine vx_catch (own := own) (name := qex e) (E := qex e) X.2.2.2.1 (tableOf pre) ⟨s0, e0, hp, ct⟩ (tableOf suf) (by rw [htab, hsp]; unfold tableOf; rw [List.map_append, List.map_cons]) (fun y hy => ?_) ?_ hct (X.2.2.2.2.1 _ hl) (X.2.2.2.2.2.word hcast) hq hv hc (hg q n a b hn ha hb H locs ls z hH hl' hls)
  · obtain ⟨w, hw, rfl⟩ := List.mem_map.mp hy
    obtain ⟨h0, i, hi, hne, hli⟩ := hpre w hw
    exact Or.inr ⟨h0, qex i, X.2.2.2.2.1 _ hli, X.2.2.2.2.2.2.2.2.2.2.1 e i he hi hne⟩
  · show (decide (s0 ≤ pc) && decide (pc < e0)) = true
    rw [decide_eq_true hcov.1, decide_eq_true hcov.2]; rfl
theorem GG_runP {α : Type} {enc : α → Option Value} {res : Except Nat α × QM} {mc ms : Nat} {st0 rest : List Value} {As : Array Value} (hT : THp k pc T) (hf : a + mc ≤ (kR k).cells ∧ b + ms ≤ (kR k).slots)
    (hr : ∀ (H : Heap) (locs : List Loc) (ls : Array Slot), HR (kD k) (kDA k) (kHs k) mm H → lv_has ls (knL k) env →
      vx_Run (kp k) (kl k) (ke k) (kR k) (ks k) (km k) (ka k) (kb k) (kmeth k) (kc k) H locs a b mc ms (F0 (km k) pc ls st0) rest (QcM (kD k) (kDA k) (kHs k) enc res As) (XcM (kD k) (kDA k) (kHs k) res) (fun q => (kHs k).size ≤ q))
    (hk : qwp (fun _ => some res) (fun v m' => GG k env ((enc v).toList ++ rest) m' (pc + 3) (a + mc) (b + ms)) T mm) : GG k env st0 mm pc a b := by
  intro H locs ls z hR hl hls U hU X'
  obtain ⟨r1, r2⟩ := res
  have hl' : ∀ L : List Loc, (∀ q ∈ L, (kHs k).size ≤ q.base) → ∀ q ∈ locs ++ L, (kHs k).size ≤ q.base := fun L hL q hq => by
    rcases List.mem_append.mp hq with h | h
    · exact hl q h
    · exact hL q h
  rcases hr H locs ls hR hls U hU X' with ⟨v, st₀, t, T', L, h0, X'', hL, e1, e2, ⟨⟨v', hv1, hv2⟩, hq2, hq3⟩, hst⟩ | ⟨q, st₀, t, T', L, E, ce, h0, X'', hL, e1, e2, ⟨⟨e, he1, rfl⟩, hx2, hx3⟩, hce, hcv, hcl, hst⟩
  · cases hv1
    cases hv2
    have hk' : GG k env ((enc v').toList ++ rest) r2 (pc + 3) (a + mc) (b + ms) := hk
    obtain ⟨t2, a1, b1⟩ := hk' T'.heap (locs ++ L) ls (by rw [e1]; rw [h0] at hq3; omega) (by rw [e1]; exact hq2) (hl' L hL) hls T' rfl X''
    exact ⟨t2, hst t2 a1, b1⟩
  · cases he1
    have hk' : T e r2 := hk
    obtain ⟨t2, a1, b1⟩ := hT e r2 T'.heap (locs ++ L) ls rest ce q (a + mc) (b + ms) hk' (by rw [e1]; rw [h0] at hx3; omega) (by rw [e1]; exact hx2) (hl' L hL) (lv_sub hls [] rfl) (by rw [e1]; exact hce) hcv hcl hf.1 hf.2 T' rfl X''
    exact ⟨t2, hst.trans a1, b1⟩
/-- a call of the class's own method out of a method with handlers -/
theorem p_callV {α : Type} {enc : α → Option Value} {x : QX α} {y : MethodName} {c2 : ByteArray} {maxL fr lo mc ms n i q cI : Nat} {C : String} {Tt : u_T} {N : Nat} {ret : Option FieldType} {av : List Value} (X : CX k cc own) (hT : THp k pc T) (htr : (kl k).stackTraces = false) (hcl : vwCl[cI]? = some (C, Tt, N)) (hq : qty mm q = (1, cI, 0)) (M : MM y c2 maxL ret fr lo mc ms enc (.ref q :: av) x) (L : LK y c2 maxL ret n) (hin : Cond.instanceMethod y ∈ qW) (hse : Cond.selects C y y ∈ qW) (hl : Cond.methodLink own i y ∈ qW) (hn : av.length = n)
    (hroom : fr + 1 ≤ (kR k).frames ∧ 8 + (maxL + 11) + lo ≤ (kR k).locals) (hst : scat st ≤ 8) (hf : a + mc ≤ (kR k).cells ∧ b + ms ≤ (kR k).slots) (hdg : decode cc pc = .ok (.invokevirtual i, 3)) (hs0 : st0 = av.reverse ++ .ref q :: st) (h : qwp x (fun v m' => GG k env ((enc v).toList ++ st) m' (pc + 3) (a + mc) (b + ms)) T mm) : GG k env st0 mm pc a b := by
  unfold qwp at h
  cases hx : x mm with
  | none => rw [hx] at h; exact h.elim
  | some res =>
    rw [hx] at h
    have ht := X.2.2.2.2.1
    refine GG_runP (As := (Value.ref q :: av).toArray) hT hf (fun H locs ls hR hls => ?_) h
    exact vx_runV (As := av) (g := F0 (km k) pc ls st0) (C := C) X.fix (M (kl k) (kD k) (kDA k) (kHs k) mm res htr hx) ⟨callB_of n ht L.good rfl rfl rfl (ht _ L.2.1) (ht _ hl) L.2.2 hroom, ht _ hin, ht _ hse⟩
      ⟨PcM.blind, t_recv X hcl hq hR, fun U hU hW => ⟨rfl, by rw [hU]; exact hR, KN.moved hW X.2.2.2.2.2⟩⟩ rfl hn hls.1 hs0 (lv_room hst) hdg hf
theorem GG_runEP {R : RX} {mc ms : Nat} {st0 rest : List Value} {As : Array Value} (hT : THp k pc T) (hf : a + mc ≤ (kR k).cells ∧ b + ms ≤ (kR k).slots)
    (hr : ∀ (H : Heap) (locs : List Loc) (ls : Array Slot), HR (kD k) (kDA k) (kHs k) mm H → lv_has ls (knL k) env →
      vx_Run (kp k) (kl k) (ke k) (kR k) (ks k) (km k) (ka k) (kb k) (kmeth k) (kc k) H locs a b mc ms (F0 (km k) pc ls st0) rest (QcE (kD k) (kDA k) (kHs k) R As) (XcE (kD k) (kDA k) (kHs k) R) (fun q => (kHs k).size ≤ q))
    (hx : ∀ e m', R (.error e) m' → T e m') (hk : ∀ v m', R (.ok v) m' → GG k env (v.toList ++ rest) m' (pc + 3) (a + mc) (b + ms)) : GG k env st0 mm pc a b := by
  intro H locs ls z hR hl hls U hU X'
  have hl' : ∀ L : List Loc, (∀ q ∈ L, (kHs k).size ≤ q.base) → ∀ q ∈ locs ++ L, (kHs k).size ≤ q.base := fun L hL q hq => by
    rcases List.mem_append.mp hq with h | h
    · exact hl q h
    · exact hL q h
  rcases hr H locs ls hR hls U hU X' with ⟨v, st₀, t, T', L, h0, X'', hL, e1, e2, ⟨v', m', hv1, hv2, hq2, hq3⟩, hst⟩ | ⟨q, st₀, t, T', L, E, ce, h0, X'', hL, e1, e2, ⟨e, m', he1, rfl, hx2, hx3⟩, hce, hcv, hcl, hst⟩
  · cases hv2
    obtain ⟨t2, a1, b1⟩ := hk _ m' hv1 T'.heap (locs ++ L) ls (by rw [e1]; rw [h0] at hq3; omega) (by rw [e1]; exact hq2) (hl' L hL) hls T' rfl X''
    exact ⟨t2, hst t2 a1, b1⟩
  · obtain ⟨t2, a1, b1⟩ := hT e m' T'.heap (locs ++ L) ls rest ce q (a + mc) (b + ms) (hx e m' he1) (by rw [e1]; rw [h0] at hx3; omega) (by rw [e1]; exact hx2) (hl' L hL) (lv_sub hls [] rfl) (by rw [e1]; exact hce) hcv hcl hf.1 hf.2 T' rfl X''
    exact ⟨t2, hst.trans a1, b1⟩
theorem p_callE (R : RX) {y : MethodName} {c2 : ByteArray} {maxL fr lo mc ms n i : Nat} {ret : Option FieldType} {av : (Nat → ClassId) → List Value} {P : (Nat → ClassId) → QM → RX → Prop} {q cI : Nat} {C : String} {Tt : u_T} {N : Nat} {as : List Value} (X : CX k cc own) (hT : THp k pc T) (htr : (kl k).stackTraces = false) (hcl : vwCl[cI]? = some (C, Tt, N)) (hq : qty mm q = (1, cI, 0)) (M : ME y c2 maxL ret fr lo mc ms av P) (L : LK y c2 maxL ret n) (hin : Cond.instanceMethod y ∈ qW) (hse : Cond.selects C y y ∈ qW) (hl : Cond.methodLink own i y ∈ qW) (hav : av (kDA k) = .ref q :: as) (hn : as.length = n)
    (hroom : fr + 1 ≤ (kR k).frames ∧ 8 + (maxL + 11) + lo ≤ (kR k).locals) (hst : scat st ≤ 8) (hf : a + mc ≤ (kR k).cells ∧ b + ms ≤ (kR k).slots) (hdg : decode cc pc = .ok (.invokevirtual i, 3)) (hs0 : st0 = as.reverse ++ .ref q :: st) (hP : P (kDA k) mm R) (hx : ∀ e m', R (.error e) m' → T e m') (h : ∀ v m', R (.ok v) m' → GG k env (v.toList ++ st) m' (pc + 3) (a + mc) (b + ms)) : GG k env st0 mm pc a b := by
  refine GG_runEP (As := (Value.ref q :: as).toArray) hT hf (fun H locs ls hR hls => ?_) hx h
  have M' := M (kl k) (kD k) (kDA k) (kHs k) mm R htr hP
  rw [hav] at M'
  exact vx_runV (As := as) (g := F0 (km k) pc ls st0) (C := C) X.fix M' ⟨callB_of n X.2.2.2.2.1 L.good rfl rfl rfl (X.2.2.2.2.1 _ L.2.1) (X.2.2.2.2.1 _ hl) L.2.2 hroom, X.2.2.2.2.1 _ hin, X.2.2.2.2.1 _ hse⟩
      ⟨PcM.blind, t_recv X hcl hq hR, fun U hU hW => ⟨rfl, by rw [hU]; exact hR, KN.moved hW X.2.2.2.2.2⟩⟩ rfl hn hls.1 hs0 (lv_room hst) hdg hf
theorem h_iret {hh : List (Nat × Nat × Nat × Nat)} {R : RX} {v : Int32} {ty : FieldType} (X : CX k cc own) (C : CQH k hh R) (hr : (kmeth k).sig.returnType = some ty) (hn : narrow ty (.int v) = .int v) (hdg : decode cc pc = .ok (.ireturn, 1)) (ha : a ≤ (kR k).cells) (hb : b ≤ (kR k).slots) (h : R (.ok (some (.int v))) mm) : GG k env [.int v] mm pc a b := by
  intro H locs ls z hR hl hls
  rw [C.1]
  exact vx_ret (W.widen ha hb (W.zret X.1 X.2.1 hr hn (fun t ht _ => ⟨_, mm, h, rfl, by rw [ht]; exact hR, by rw [ht]; exact z⟩) hl hdg (hlocks := C.2.2.1)))
/-- the words that a call of a method with handlers wants -/
def LKH (y : MethodName) (cc : ByteArray) (maxL : Nat) (ret : Option FieldType) (hh : List (Nat × Nat × Nat × Nat)) (n : Nat) : Prop :=
  Cond.codeWith y cc maxL ret hh ∈ qW ∧ Cond.initialized y.cls ∈ qW ∧ (y.cls ≠ "java/lang/invoke/MethodHandle" ∧ y.cls ≠ "java/lang/invoke/VarHandle" ∧ (parseMethodDescriptor y.desc).map (fun d => d.parameters.length) = some n)
theorem h_callS (R : RX) {y : MethodName} {c2 : ByteArray} {maxL fr lo mc ms n i : Nat} {ret : Option FieldType} {hh : List (Nat × Nat × Nat × Nat)} {av : (Nat → ClassId) → List Value} {P : (Nat → ClassId) → QM → RX → Prop} (X : CX k cc own) (hT : TH k T) (htr : (kl k).stackTraces = false) (M : MEH y c2 maxL ret hh fr lo mc ms av P) (L : LKH y c2 maxL ret hh n) (hs : Cond.static y ∈ qW) (hl : Cond.methodLink own i y ∈ qW) (hn : (av (kDA k)).length = n)
    (hroom : fr + 1 ≤ (kR k).frames ∧ 8 + (maxL + 11) + lo ≤ (kR k).locals) (hst : scat st ≤ 8) (hf : a + mc ≤ (kR k).cells ∧ b + ms ≤ (kR k).slots) (hdg : decode cc pc = .ok (.invokestatic i, 3)) (hs0 : st0 = (av (kDA k)).reverse ++ st) (hP : P (kDA k) mm R) (hx : ∀ e m', R (.error e) m' → T e m') (h : ∀ v m', R (.ok v) m' → GG k env (v.toList ++ st) m' (pc + 3) (a + mc) (b + ms)) : GG k env st0 mm pc a b := by
  refine GG_runE (As := (av (kDA k)).toArray) hT hf (fun H locs ls hR hls => ?_) hx h
  have hG : GoodIn qW (va_wsS own i y (.codeWith y c2 maxL ret hh :: qW)) := fun w hw => by
    have hm : w ∈ qW := by
      rcases List.mem_append.mp hw with g | g
      · simp only [List.mem_cons, List.mem_nil_iff, or_false] at g
        rcases g with rfl | rfl | rfl
        · exact hl
        · exact hs
        · exact L.2.1
      · rcases List.mem_cons.mp g with rfl | g
        · exact L.1
        · exact g
    exact ⟨hm, qW_good hm⟩
  exact vx_runSX (As := av (kDA k)) (g := F0 (km k) pc ls st0) X.fix (M (kl k) (kD k) (kDA k) (kHs k) mm R htr hP) (vx_cwSW n X.2.2.2.2.1 hG rfl rfl rfl L.2.2 hroom)
      ⟨PcM.blind, fun U hU hW => ⟨rfl, by rw [hU]; exact hR, KN.moved hW X.2.2.2.2.2⟩⟩ rfl hn hls.1 hs0 (lv_room hst) hdg hf
end C67b
