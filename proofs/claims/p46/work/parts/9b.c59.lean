/-! contracts by what holds behind a call; rows for texts and for the builder of texts -/
set_option maxRecDepth 100000 in
theorem inGJ4 : GoodIn lw_tbl (u_ws RJ4 TJ4 4) := goodIn_r _ [675, 677, 679, 681] (by decide +kernel) (by decide +kernel)
set_option maxRecDepth 100000 in
theorem inWJ4 : ∀ w ∈ u_ws RJ4 TJ4 4, w ∈ qW := fun w h => qW_of (inGJ4 w h).1 (List.all_eq_true.mp (by decide +kernel : (u_ws RJ4 TJ4 4).all goodWord = true) w h)
abbrev RX : Type := Except Nat (Option Value) → QM → Prop
def QcE (D : va_G) (DA : Nat → ClassId) (Hs : Heap) (R : RX) : Array Value → State → Outcome → State → Prop := fun _ st o t => ∃ (v : Option Value) (m' : QM), R (.ok v) m' ∧ o = .returned v ∧ HR D DA Hs m' t.heap ∧ st.heap.size ≤ t.heap.size
def XcE (D : va_G) (DA : Nat → ClassId) (Hs : Heap) (R : RX) : String → State → State → Prop := fun E st t => ∃ (e : Nat) (m' : QM), R (.error e) m' ∧ E = qex e ∧ (∃ n, qtop m' ≤ n ∧ HR D DA Hs (stop m' n) t.heap) ∧ st.heap.size ≤ t.heap.size
/-- a contract: what must hold ahead of a call that R may hold behind it -/
def ME (y : MethodName) (cc : ByteArray) (maxL : Nat) (ret : Option FieldType) (fr lo mc ms : Nat) (av : (Nat → ClassId) → List Value) (P : (Nat → ClassId) → QM → RX → Prop) : Prop :=
  ∀ (l : Launch) (D : va_G) (DA : Nat → ClassId) (Hs : Heap) (mm : QM) (R : RX), l.stackTraces = false → P DA mm R →
    vx_Met l y (.code y cc maxL ret :: qW) { frames := fr, cells := mc, slots := ms, locals := lo } (PcM D DA Hs (av DA) mm) (QcE D DA Hs R) (XcE D DA Hs R) mc ms (fun q => Hs.size ≤ q)
def CQE (k : QC) (R : RX) : Prop :=
  kQ k = vx_MQ (kb k) (QcE (kD k) (kDA k) (kHs k) R) (XcE (kD k) (kDA k) (kHs k) R) (ka k) (ks k) (kR k).cells (kR k).slots (fun q => (kHs k).size ≤ q) ∧
  (∀ x ∈ (kc k).exceptionTable.toList, False) ∧ (kmeth k).locks = false ∧ (kl k).stackTraces = false ∧ ∀ q : Nat, q < (kHs k).size → (ks k).heap[q]? = (kHs k)[q]?
theorem TH_ofE {k : QC} {R : RX} (C : CQE k R) : TH k (fun e m' => R (.error e) m') := by
  intro e mm H locs ls pc rest ce q a b hT hz hn hl hls hq hv hc ha hb
  rw [C.1]
  exact vx_out (fun x hx => absurd (C.2.1 x hx) id) C.2.2.1 hq hv hc (fun t ht _ => ⟨e, mm, hT, rfl, by rw [ht]; exact hn, by rw [ht]; exact hz⟩) hl ha hb
theorem ME_of {y : MethodName} {cc : ByteArray} {maxL : Nat} {ret : Option FieldType} {fr lo mc ms : Nat} {av : (Nat → ClassId) → List Value} {P : (Nat → ClassId) → QM → RX → Prop} {env0 : (Nat → ClassId) → List (Nat × Value)} (hy : plainName y.cls = true) (hlen : ∀ DA, (lg_sl (av DA)).length ≤ maxL) (hargs : ∀ DA, lv_args 0 (av DA) = env0 DA)
    (body : ∀ (k : QC) (mm : QM) (R : RX), CX k cc y.cls → CQE k R → kR k = { frames := fr, cells := mc, slots := ms, locals := lo } → knL k = maxL → (kmeth k).sig.returnType = ret → (kmeth k).name = y.name → P (kDA k) mm R → GG k (env0 (kDA k)) [] mm 0 0 0) :
    ME y cc maxL ret fr lo mc ms av P := by
  intro l D DA Hs mm R htr hP0
  refine vx_ofW hy rfl ?_
  intro p e s m args below meth c s₁ B hml htab hP
  obtain ⟨rfl, hR, hK⟩ := hP
  have hts : ∀ w ∈ qW, w.before (av DA).toArray s = true := fun w hw => atoms_spec (ws := .code y cc maxL ret :: qW) B.pre w (List.mem_cons_of_mem _ hw)
  have hl := lv_entry (av DA) (n := maxL) (hlen DA)
  rw [lg_entry_eq]
  rw [hargs] at hl
  exact body (p, l, e, _, s, m, (av DA).toArray, below, meth, c, _, D, DA, Hs, maxL) mm R ⟨B.exec, B.bytes, hml, findClass_of_methodNamed B.named, hts, hK⟩ ⟨rfl, htab, B.notSynchronized, htr, hR.2.2.1⟩ rfl rfl B.returns (name_of_methodNamed B.named B.method).1 hP0
    s.heap [] _ (Nat.le_refl _) hR (fun z hz => by cases hz) hl
/-! a private method, called on an object of a class below -/
section T59a
variable {p : Program} {l : Launch} {e : Env} {R : Room} {s : State} {m : MethodId} {args : Array Value} {below : List Frame} {meth : Method} {c : Code} {T : State} {H : Heap} {locs : List Loc} {cells slots : Nat}
theorem tx_callP (X : Stand p l e R s m args below meth c T locs cells slots) (hexec : p.tables.exec = Jvm.exec) {own : String} {index : Nat} {y : MethodName} {bytes : ByteArray} {maxL : Nat} {ret : Option FieldType}
    (hown : s.vm.findClass own = some m.cls) (hlink : (Cond.methodLink own index y).before args s = true) (hinst : (Cond.instanceMethod y).before args s = true) (hpriv : (Cond.privateMethod y).before args s = true) (hsame : (Cond.sameMethod y.cls y.cls y.name y.desc).before args s = true)
    (hcode : (Cond.code y bytes maxL ret).before args s = true) (hy : y.cls ≠ "java/lang/invoke/MethodHandle" ∧ y.cls ≠ "java/lang/invoke/VarHandle")
    {W9 : Nat} {Pre : Pt → Array Value → Prop} {Post : Pt → Array Value → Option Value → Pt → Prop} {PostX : Pt → Array Value → Addr → Pt → Prop} (hK : vx_Back l R p e below s args y 3 W9 Pre Post PostX)
    {b : Addr} {cellB : Cell} (hcell : T.heap[b]? = some cellB) (hobj : cellB.vm.isStatics = false)
    {g : JFrame} (hg : g.method = m) (hsize : g.locals.size = c.maxLocals) {argsL rest : List Value} (hlen : ∀ sig, parseMethodDescriptor y.desc = some sig → argsL.length = sig.parameters.length)
    (hstack : g.stack = argsL.reverse ++ .ref b :: rest) (hW : 2 * g.monitorRoom + (rest.map fun v => v.category).sum ≤ W9) (hdg : decode c.code g.pc = .ok (.invokevirtual index, 3))
    (hpre : ∀ vm₁, s.WarmedH vm₁ → Pre ⟨T.setVm vm₁, locs, cells, slots⟩ (Value.ref b :: argsL).toArray) :
    (∃ (v : Option Value) (vm₁ : Vm) (B : Pt), s.WarmedH vm₁ ∧ Stand p l e R s m args below meth c B.U B.locs B.cells B.slots ∧ Post ⟨T.setVm vm₁, locs, cells, slots⟩ (Value.ref b :: argsL).toArray v B ∧
      ∀ target, Steps p.tables e below (B.U.setTop { g with pc := g.pc + 3, stack := v.toList ++ rest }) target → Steps p.tables e below (T.setTop g) target) ∨
    (∃ (q : Addr) (vm₁ : Vm) (B : Pt), s.WarmedH vm₁ ∧ Stand p l e R s m args below meth c B.U B.locs B.cells B.slots ∧ PostX ⟨T.setVm vm₁, locs, cells, slots⟩ (Value.ref b :: argsL).toArray q B ∧
      Steps p.tables e below (T.setTop g) ((B.U.setTop { g with stack := rest }).pushFrame (.throwing q))) := by
  obtain ⟨mk, methM, hnamed, hmethM, hstM, habM⟩ := Cond.instanceMethod_spec hinst
  obtain ⟨methM', cM, hmethM', -, -, -, -, -, -, hsigM⟩ := Cond.code_spec hnamed hcode
  cases hmethM.symm.trans hmethM'
  obtain ⟨cn, kP, r1, hcn, hkP, hkPi, hf, hn1⟩ := Cond.sameMethod_found hsame
  have hcm : mk.cls = cn := Option.some.inj ((findClass_of_methodNamed hnamed).symm.trans hcn)
  have hkP' : s.vm.classes[mk.cls]? = some kP := by rw [hcm]; exact hkP
  have hselP : selectMethod e.platform s.vm cellB.cls mk = .method mk := selectMethod_private hmethM (Cond.privateMethod_at hpriv mk methM hnamed hmethM)
  obtain ⟨vm₁, X₁, hstep₁⟩ := X.invokevirtual hexec hown hlink hnamed hmethM hstM hkP' hkPi hy (a := b) (cell := cellB) hcell
    (fun z h => by rw [h] at hobj; cases hobj) hselP hmethM habM hkP' hkPi (g := g) hg (argsL := argsL) (rest := rest) (hlen _ hsigM) hstack hdg
  rcases hK m meth c ⟨T.setVm vm₁, locs, cells, slots⟩ { g with stack := rest } (.invokevirtual index) mk (Value.ref b :: argsL).toArray X₁ hg hsize hdg hW (X₁.named hnamed) (hpre vm₁ X₁.warmed) with ⟨v, B, X', hpost, hsteps⟩ | ⟨q, B, X', hpost, hsteps⟩
  · exact Or.inl ⟨v, vm₁, B, X₁.warmed, X', hpost, fun target h => hstep₁ _ fun acts => by rw [doInvoke_state]; exact hsteps.trans h⟩
  · exact Or.inr ⟨q, vm₁, B, X₁.warmed, X', hpost, hstep₁ _ fun acts => by rw [doInvoke_state]; exact hsteps⟩
theorem tx_runP {y : MethodName} {bytes cc : ByteArray} {maxL nL mc ms n index : Nat} {ret : Option FieldType} {ws : List Cond} {rm : Room} {Pc : Array Value → State → Prop} {Qc : Array Value → State → Outcome → State → Prop} {XC : String → State → State → Prop} {free : Addr → Prop} {Ts : List Cond} {own C : String} {b : Addr} {As rest : List Value} {g : JFrame}
    (S : CallFix p m c cc nL s args Ts own) (hM : vx_Met l y ws rm Pc Qc XC mc ms free) (cb : CallB R s args own index y bytes maxL ret ws rm mc ms n) (hin : (Cond.instanceMethod y).before args s = true) (hpriv : (Cond.privateMethod y).before args s = true) (hsame : (Cond.sameMethod y.cls y.cls y.name y.desc).before args s = true) (hp : PreV s H C b Pc As)
    (hg : g.method = m) (hn : As.length = n) (hsize : g.locals.size = nL) (hstack : g.stack = As.reverse ++ .ref b :: rest) (hW : 2 * g.monitorRoom + (rest.map fun v => v.category).sum ≤ 8) (hdg : decode cc g.pc = .ok (.invokevirtual index, 3)) (hf : cells + mc ≤ R.cells ∧ slots + ms ≤ R.slots) :
    vx_Run p l e R s m args below meth c H locs cells slots mc ms g rest (Qc (Value.ref b :: As).toArray) XC free := by
  have hK : vx_Back l R p e below s args y 3 8 (PreOf R mc ms Pc) (PostOf Qc mc ms free) (vx_Post XC mc ms free) := vx_callBack cb hM hp.1
  obtain ⟨-, -, -, -, -, -, hcode, -, hy, hlen, hl⟩ := cb
  obtain ⟨hx, hb, hml, ho, -⟩ := S
  obtain ⟨-, ⟨cellB, hcB, hoB, hclB⟩, hPc⟩ := hp
  intro T hT X
  rcases tx_callP X hx (bytes := bytes) (maxL := maxL) (ret := ret) ho hl hin hpriv hsame hcode hy hK (by rw [hT]; exact hcB) hoB hg (hsize.trans hml.symm) (argsL := As) (rest := rest) (fun sig h => hn.trans (hlen sig h)) hstack hW (by rw [hb]; exact hdg)
    (fun vm₁ hW₁ => ⟨hf.1, hf.2, hPc (T.setVm vm₁) hT hW₁⟩) with ⟨v, vm₁, ⟨U', l2, c2, s2⟩, hW₁, X', ⟨g', mk, t, L, e1, e2, hq, h1, hL, h2, h3⟩, st⟩ | ⟨q, vm₁, ⟨U', l2, c2, s2⟩, hW₁, X', ⟨g', mk, t, L, E, ce, e1, e2, hq, hce, hcv, hcl, h1, hL, h2, h3⟩, st⟩
  · dsimp only [Pt.U, Pt.locs, Pt.cells, Pt.slots] at X' e1 e2 h1 h2 h3 st
    subst h1; subst h2; subst h3
    exact Or.inl ⟨v, (T.setVm vm₁).calling g' mk (Value.ref b :: As).toArray, t, U', L, hT, X', hL, e1, e2, hq, st⟩
  · dsimp only [Pt.U, Pt.locs, Pt.cells, Pt.slots] at X' e1 e2 h1 h2 h3 st hcl
    subst h1; subst h2; subst h3
    exact Or.inr ⟨q, (T.setVm vm₁).calling g' mk (Value.ref b :: As).toArray, t, U', L, E, ce, hT, X', hL, e1, e2, hq, hce, hcv, vx_cls hW₁ hcl, st⟩
end T59a
section T59b
variable {k : QC} {cc : ByteArray} {own : String} {env env' : List (Nat × Value)} {st st0 : List Value} {mm : QM} {pc a b : Nat} {T : Nat → QM → Prop}
theorem GG_runE {R : RX} {mc ms : Nat} {st0 rest : List Value} {As : Array Value} (hT : TH k T) (hf : a + mc ≤ (kR k).cells ∧ b + ms ≤ (kR k).slots)
    (hr : ∀ (H : Heap) (locs : List Loc) (ls : Array Slot), HR (kD k) (kDA k) (kHs k) mm H → lv_has ls (knL k) env →
      vx_Run (kp k) (kl k) (ke k) (kR k) (ks k) (km k) (ka k) (kb k) (kmeth k) (kc k) H locs a b mc ms (F0 (km k) pc ls st0) rest (QcE (kD k) (kDA k) (kHs k) R As) (XcE (kD k) (kDA k) (kHs k) R) (fun q => (kHs k).size ≤ q))
    (hx : ∀ e m', R (.error e) m' → T e m') (hk : ∀ v m', R (.ok v) m' → GG k env (v.toList ++ rest) m' (pc + 3) (a + mc) (b + ms)) : GG k env st0 mm pc a b := by
  intro H locs ls z hR hl hls U hU X'
  have hl' : ∀ L : List Loc, (∀ q ∈ L, (kHs k).size ≤ q.base) → ∀ q ∈ locs ++ L, (kHs k).size ≤ q.base := fun L hL q hq => by
    rcases List.mem_append.mp hq with h | h
    · exact hl q h
    · exact hL q h
  rcases hr H locs ls hR hls U hU X' with ⟨v, st₀, t, T', L, h0, X'', hL, e1, e2, ⟨v', m', hv1, hv2, hq2, hq3⟩, hst⟩ | ⟨q, st₀, t, T', L, E, ce, h0, X'', hL, e1, e2, ⟨e, m', he1, rfl, hx2, hx3⟩, hce, hcv, hcl, hst⟩
  · cases hv2
    obtain ⟨t2, a1, b1⟩ := hk _ m' hv1 T'.heap (locs ++ L) ls (by rw [e1]; rw [h0] at hq3; omega) (by rw [e1]; exact hq2) (hl' L hL) hls T' rfl X''
    exact ⟨t2, hst t2 a1, b1⟩
  · obtain ⟨t2, a1, b1⟩ := hT e m' T'.heap (locs ++ L) ls pc rest ce q (a + mc) (b + ms) (hx e m' he1) (by rw [e1]; rw [h0] at hx3; omega) (by rw [e1]; exact hx2) (hl' L hL) (lv_sub hls [] rfl) (by rw [e1]; exact hce) hcv hcl hf.1 hf.2 T' rfl X''
    exact ⟨t2, hst.trans a1, b1⟩
theorem e_callS (R : RX) {y : MethodName} {c2 : ByteArray} {maxL fr lo mc ms n i : Nat} {ret : Option FieldType} {av : (Nat → ClassId) → List Value} {P : (Nat → ClassId) → QM → RX → Prop} (X : CX k cc own) (hT : TH k T) (htr : (kl k).stackTraces = false) (M : ME y c2 maxL ret fr lo mc ms av P) (L : LK y c2 maxL ret n) (hs : Cond.static y ∈ qW) (hl : Cond.methodLink own i y ∈ qW) (hn : (av (kDA k)).length = n) (hroom : fr + 1 ≤ (kR k).frames ∧ 8 + (maxL + 11) + lo ≤ (kR k).locals) (hst : scat st ≤ 8) (hf : a + mc ≤ (kR k).cells ∧ b + ms ≤ (kR k).slots) (hdg : decode cc pc = .ok (.invokestatic i, 3)) (hs0 : st0 = (av (kDA k)).reverse ++ st) (hP : P (kDA k) mm R) (hx : ∀ e m', R (.error e) m' → T e m') (h : ∀ v m', R (.ok v) m' → GG k env (v.toList ++ st) m' (pc + 3) (a + mc) (b + ms)) : GG k env st0 mm pc a b := by
  refine GG_runE (As := (av (kDA k)).toArray) hT hf (fun H locs ls hR hls => ?_) hx h
  exact vx_runS (As := av (kDA k)) (g := F0 (km k) pc ls st0) X.fix (M (kl k) (kD k) (kDA k) (kHs k) mm R htr hP) ⟨callB_of n X.2.2.2.2.1 L.good rfl rfl rfl (X.2.2.2.2.1 _ L.2.1) (X.2.2.2.2.1 _ hl) L.2.2 hroom, X.2.2.2.2.1 _ hs⟩
      ⟨PcM.blind, fun U hU hW => ⟨rfl, by rw [hU]; exact hR, KN.moved hW X.2.2.2.2.2⟩⟩ rfl hn hls.1 hs0 (lv_room hst) hdg hf
/-- the receiver is an object of the memory -/
theorem t_recv {q cI : Nat} {C : String} {Tt : u_T} {N : Nat} {H : Heap} (X : CX k cc own) (hcl : vwCl[cI]? = some (C, Tt, N)) (hq : qty mm q = (1, cI, 0)) (hR : HR (kD k) (kDA k) (kHs k) mm H) : ∃ cell : Cell, H[q]? = some cell ∧ cell.vm.isStatics = false ∧ (ks k).vm.findClass C = some cell.cls := by
  obtain ⟨-, -, c1⟩ := hR.2.2.2 q (by rw [hq]; exact Nat.one_ne_zero)
  obtain ⟨r, h1, cellB, g1, g2, g3, -⟩ := c1.1 (by rw [hq])
  rw [hq] at h1 g2
  have hcls := (X.kn hcl).2.1
  exact ⟨cellB, g1, by rw [g3]; rfl, by rw [g2]; exact hcls⟩
theorem e_callV (R : RX) {y : MethodName} {c2 : ByteArray} {maxL fr lo mc ms n i : Nat} {ret : Option FieldType} {av : (Nat → ClassId) → List Value} {P : (Nat → ClassId) → QM → RX → Prop} {q : Nat} {C : String} {as : List Value} (X : CX k cc own) (hT : TH k T) (htr : (kl k).stackTraces = false) (M : ME y c2 maxL ret fr lo mc ms av P) (L : LK y c2 maxL ret n) (hin : Cond.instanceMethod y ∈ qW) (hse : Cond.selects C y y ∈ qW) (hl : Cond.methodLink own i y ∈ qW) (hrec : ∀ H, HR (kD k) (kDA k) (kHs k) mm H → ∃ cell : Cell, H[q]? = some cell ∧ cell.vm.isStatics = false ∧ (ks k).vm.findClass C = some cell.cls) (hav : av (kDA k) = .ref q :: as) (hn : as.length = n) (hroom : fr + 1 ≤ (kR k).frames ∧ 8 + (maxL + 11) + lo ≤ (kR k).locals) (hst : scat st ≤ 8) (hf : a + mc ≤ (kR k).cells ∧ b + ms ≤ (kR k).slots) (hdg : decode cc pc = .ok (.invokevirtual i, 3)) (hs0 : st0 = as.reverse ++ .ref q :: st) (hP : P (kDA k) mm R) (hx : ∀ e m', R (.error e) m' → T e m') (h : ∀ v m', R (.ok v) m' → GG k env (v.toList ++ st) m' (pc + 3) (a + mc) (b + ms)) : GG k env st0 mm pc a b := by
  refine GG_runE (As := (Value.ref q :: as).toArray) hT hf (fun H locs ls hR hls => ?_) hx h
  have M' := M (kl k) (kD k) (kDA k) (kHs k) mm R htr hP
  rw [hav] at M'
  exact vx_runV (As := as) (g := F0 (km k) pc ls st0) (C := C) X.fix M' ⟨callB_of n X.2.2.2.2.1 L.good rfl rfl rfl (X.2.2.2.2.1 _ L.2.1) (X.2.2.2.2.1 _ hl) L.2.2 hroom, X.2.2.2.2.1 _ hin, X.2.2.2.2.1 _ hse⟩
      ⟨PcM.blind, hrec H hR, fun U hU hW => ⟨rfl, by rw [hU]; exact hR, KN.moved hW X.2.2.2.2.2⟩⟩ rfl hn hls.1 hs0 (lv_room hst) hdg hf
theorem e_callP (R : RX) {y : MethodName} {c2 : ByteArray} {maxL fr lo mc ms n i : Nat} {ret : Option FieldType} {av : (Nat → ClassId) → List Value} {P : (Nat → ClassId) → QM → RX → Prop} {q : Nat} {as : List Value} (X : CX k cc own) (hT : TH k T) (htr : (kl k).stackTraces = false) (M : ME y c2 maxL ret fr lo mc ms av P) (L : LK y c2 maxL ret n) (hin : Cond.instanceMethod y ∈ qW) (hpr : Cond.privateMethod y ∈ qN) (hsa : Cond.sameMethod y.cls y.cls y.name y.desc ∈ qW) (hl : Cond.methodLink own i y ∈ qW) (hq : qty mm q = (1, 0, 0)) (hav : av (kDA k) = .ref q :: as) (hn : as.length = n) (hroom : fr + 1 ≤ (kR k).frames ∧ 8 + (maxL + 11) + lo ≤ (kR k).locals) (hst : scat st ≤ 8) (hf : a + mc ≤ (kR k).cells ∧ b + ms ≤ (kR k).slots) (hdg : decode cc pc = .ok (.invokevirtual i, 3)) (hs0 : st0 = as.reverse ++ .ref q :: st) (hP : P (kDA k) mm R) (hx : ∀ e m', R (.error e) m' → T e m') (h : ∀ v m', R (.ok v) m' → GG k env (v.toList ++ st) m' (pc + 3) (a + mc) (b + ms)) : GG k env st0 mm pc a b := by
  refine GG_runE (As := (Value.ref q :: as).toArray) hT hf (fun H locs ls hR hls => ?_) hx h
  have M' := M (kl k) (kD k) (kDA k) (kHs k) mm R htr hP
  rw [hav] at M'
  exact tx_runP (As := as) (g := F0 (km k) pc ls st0) (C := RJ4) X.fix M' (callB_of n X.2.2.2.2.1 L.good rfl rfl rfl (X.2.2.2.2.1 _ L.2.1) (X.2.2.2.2.1 _ hl) L.2.2 hroom) (X.2.2.2.2.1 _ hin) (X.2.2.2.2.2.word hpr) (X.2.2.2.2.1 _ hsa)
      ⟨PcM.blind, t_recv X rfl hq hR, fun U hU hW => ⟨rfl, by rw [hU]; exact hR, KN.moved hW X.2.2.2.2.2⟩⟩ rfl hn hls.1 hs0 (lv_room hst) hdg hf
/-- super.m(..) on the builder -/
theorem e_callU (R : RX) {y : MethodName} {c2 : ByteArray} {maxL fr lo mc ms n i : Nat} {ret : Option FieldType} {av : (Nat → ClassId) → List Value} {P : (Nat → ClassId) → QM → RX → Prop} {q : Nat} {as : List Value} (X : CX k cc own) (hT : TH k T) (htr : (kl k).stackTraces = false) (M : ME y c2 maxL ret fr lo mc ms av P) (L : LK y c2 maxL ret n) (hin : Cond.instanceMethod y ∈ qW) (hsa : Cond.sameMethod y.cls y.cls y.name y.desc ∈ qW) (hsu : Cond.superclass own y.cls ∈ qW) (hno : y.name ≠ "<init>") (hl : Cond.methodLink own i y ∈ qW) (hq : qty mm q = (1, 0, 0)) (hav : av (kDA k) = .ref q :: as) (hn : as.length = n) (hroom : fr + 1 ≤ (kR k).frames ∧ 8 + (maxL + 11) + lo ≤ (kR k).locals) (hst : scat st ≤ 8) (hf : a + mc ≤ (kR k).cells ∧ b + ms ≤ (kR k).slots) (hdg : decode cc pc = .ok (.invokespecial i, 3)) (hs0 : st0 = as.reverse ++ .ref q :: st) (hP : P (kDA k) mm R) (hx : ∀ e m', R (.error e) m' → T e m') (h : ∀ v m', R (.ok v) m' → GG k env (v.toList ++ st) m' (pc + 3) (a + mc) (b + ms)) : GG k env st0 mm pc a b := by
  refine GG_runE (As := (Value.ref q :: as).toArray) hT hf (fun H locs ls hR hls => ?_) hx h
  have M' := M (kl k) (kD k) (kDA k) (kHs k) mm R htr hP
  rw [hav] at M'
  have cb : CallB (kR k) (ks k) (ka k) own i y c2 maxL ret (.code y c2 maxL ret :: qW) { frames := fr, cells := mc, slots := ms, locals := lo } mc ms n := callB_of n X.2.2.2.2.1 L.good rfl rfl rfl (X.2.2.2.2.1 _ L.2.1) (X.2.2.2.2.1 _ hl) L.2.2 hroom
  exact vx_runSU (As := as) (g := F0 (km k) pc ls st0) (C := RJ4) (X.kn (c := 0) rfl).2 X.fix M' ⟨⟨cb.1, cb.2.1, cb.2.2.1, cb.2.2.2.1, cb.2.2.2.2.1, cb.2.2.2.2.2.1⟩, X.2.2.2.2.1 _ hl, X.2.2.2.2.1 _ hsa, X.2.2.2.2.1 _ hsu, X.2.2.2.2.1 _ hin, X.2.2.2.2.1 _ L.2.1, X.2.2.2.2.1 _ L.1, hno, cb.2.2.2.2.2.2.2.2.2.1⟩
      ⟨PcM.blind, t_recv X rfl hq hR, fun U hU hW => ⟨rfl, by rw [hU]; exact hR, KN.moved hW X.2.2.2.2.2⟩⟩ rfl hn hls.1 hs0 (lv_room hst) hdg hf
theorem e_callI (R : RX) {y : MethodName} {c2 : ByteArray} {maxL fr lo mc ms n i : Nat} {av : (Nat → ClassId) → List Value} {P : (Nat → ClassId) → QM → RX → Prop} {q : Nat} {as : List Value} (X : CX k cc own) (hT : TH k T) (htr : (kl k).stackTraces = false) (M : ME y c2 maxL none fr lo mc ms av P) (L : LK y c2 maxL none n) (hin : Cond.instanceMethod y ∈ qW) (hno : y.name = "<init>") (hl : Cond.methodLink own i y ∈ qW) (hav : av (kDA k) = .ref q :: as) (hn : as.length = n) (hroom : fr + 1 ≤ (kR k).frames ∧ 8 + (maxL + 11) + lo ≤ (kR k).locals) (hst : scat st ≤ 8) (hf : a + mc ≤ (kR k).cells ∧ b + ms ≤ (kR k).slots) (hdg : decode cc pc = .ok (.invokespecial i, 3)) (hs0 : st0 = as.reverse ++ .ref q :: st) (hP : P (kDA k) mm R) (hx : ∀ e m', R (.error e) m' → T e m') (h : ∀ v m', R (.ok v) m' → GG k env (v.toList ++ st) m' (pc + 3) (a + mc) (b + ms)) : GG k env st0 mm pc a b := by
  refine GG_runE (As := (Value.ref q :: as).toArray) hT hf (fun H locs ls hR hls => ?_) hx h
  have M' := M (kl k) (kD k) (kDA k) (kHs k) mm R htr hP
  rw [hav] at M'
  exact vx_runI (As := as) (g := F0 (km k) pc ls st0) X.fix M' ⟨callB_of n X.2.2.2.2.1 L.good rfl rfl rfl (X.2.2.2.2.1 _ L.2.1) (X.2.2.2.2.1 _ hl) L.2.2 hroom, hno, X.2.2.2.2.1 _ hin⟩
      ⟨PcM.blind, fun U hU hW => ⟨rfl, by rw [hU]; exact hR, KN.moved hW X.2.2.2.2.2⟩⟩ rfl hn hls.1 hs0 (lv_room hst) hdg hf
/- the ends -/
theorem e_iret {R : RX} {v : Int32} {ty : FieldType} (X : CX k cc own) (C : CQE k R) (hr : (kmeth k).sig.returnType = some ty) (hn : narrow ty (.int v) = .int v) (hdg : decode cc pc = .ok (.ireturn, 1)) (ha : a ≤ (kR k).cells) (hb : b ≤ (kR k).slots) (h : R (.ok (some (.int v))) mm) : GG k env [.int v] mm pc a b := by
  intro H locs ls z hR hl hls
  rw [C.1]
  exact vx_ret (W.widen ha hb (W.zret X.1 X.2.1 hr hn (fun t ht _ => ⟨_, mm, h, rfl, by rw [ht]; exact hR, by rw [ht]; exact z⟩) hl hdg (hlocks := C.2.2.1)))
theorem e_aret {R : RX} {q : Nat} {rt : FieldType} (X : CX k cc own) (C : CQE k R) (hr : (kmeth k).sig.returnType = some rt) (hrt : (∃ n, rt = .object n) ∨ ∃ t, rt = .array t) (hdg : decode cc pc = .ok (.areturn, 1)) (ha : a ≤ (kR k).cells) (hb : b ≤ (kR k).slots) (h : R (.ok (some (.ref q))) mm) : GG k env [.ref q] mm pc a b := by
  intro H locs ls z hR hl hls
  rw [C.1]
  exact vx_ret (W.widen ha hb (W.aret X.1 X.2.1 hr hrt (va_rf_or (some q)) (fun t ht _ => ⟨_, mm, h, rfl, by rw [ht]; exact hR, by rw [ht]; exact z⟩) hl hdg (hlocks := C.2.2.1)))
theorem e_vret {R : RX} (X : CX k cc own) (C : CQE k R) (hr : (kmeth k).sig.returnType = none) (hdg : decode cc pc = .ok (.return_, 1)) (ha : a ≤ (kR k).cells) (hb : b ≤ (kR k).slots) (h : R (.ok none) mm) : GG k env [] mm pc a b := by
  intro H locs ls z hR hl hls
  rw [C.1]
  exact vx_ret (W.widen ha hb (W.vret X.1 X.2.1 hr (fun t ht _ => ⟨_, mm, h, rfl, by rw [ht]; exact hR, by rw [ht]; exact z⟩) hl hdg (hlocks := C.2.2.1)))
end T59b
