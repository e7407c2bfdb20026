/-! A method's walk: what stays the same through it, in one tuple: program, launch, environment, room, entry state, method, arguments, frames below, method, code, goal, classes' numbers, arrays' classes, the old heap, how many locals -/
abbrev QC : Type := Program × Launch × Env × Room × State × MethodId × Array Value × List Frame × Method × Code × (State → Prop) × va_G × (Nat → ClassId) × Heap × Nat
abbrev kp (k : QC) : Program := k.1
abbrev kl (k : QC) : Launch := k.2.1
abbrev ke (k : QC) : Env := k.2.2.1
abbrev kR (k : QC) : Room := k.2.2.2.1
abbrev ks (k : QC) : State := k.2.2.2.2.1
abbrev km (k : QC) : MethodId := k.2.2.2.2.2.1
abbrev ka (k : QC) : Array Value := k.2.2.2.2.2.2.1
abbrev kb (k : QC) : List Frame := k.2.2.2.2.2.2.2.1
abbrev kmeth (k : QC) : Method := k.2.2.2.2.2.2.2.2.1
abbrev kc (k : QC) : Code := k.2.2.2.2.2.2.2.2.2.1
abbrev kQ (k : QC) : State → Prop := k.2.2.2.2.2.2.2.2.2.2.1
abbrev kD (k : QC) : va_G := k.2.2.2.2.2.2.2.2.2.2.2.1
abbrev kDA (k : QC) : Nat → ClassId := k.2.2.2.2.2.2.2.2.2.2.2.2.1
abbrev kHs (k : QC) : Heap := k.2.2.2.2.2.2.2.2.2.2.2.2.2.1
abbrev knL (k : QC) : Nat := k.2.2.2.2.2.2.2.2.2.2.2.2.2.2
/-- the machine at pc, over every heap that holds the memory -/
def GG (k : QC) (env : List (Nat × Value)) (st : List Value) (mm : QM) (pc cells slots : Nat) : Prop :=
  ∀ (H : Heap) (locs : List Loc) (ls : Array Slot), (ks k).heap.size ≤ H.size → HR (kD k) (kDA k) (kHs k) mm H → (∀ z ∈ locs, (kHs k).size ≤ z.base) → lv_has ls (knL k) env →
    W (kp k) (kl k) (ke k) (kR k) (ks k) (km k) (ka k) (kb k) (kmeth k) (kc k) H locs cells slots (kQ k) (F0 (km k) pc ls st)
def CX (k : QC) (cc : ByteArray) (own : String) : Prop :=
  (kp k).tables.exec = Jvm.exec ∧ (kc k).code = cc ∧ (kc k).maxLocals = knL k ∧ (ks k).vm.findClass own = some (km k).cls ∧ (∀ w ∈ qW, w.before (ka k) (ks k) = true) ∧ KN (kD k) (kDA k) (kHs k) (ks k)
theorem GG_widen {k : QC} {env : List (Nat × Value)} {st : List Value} {mm : QM} {pc a b a' b' : Nat} (h1 : a ≤ a') (h2 : b ≤ b') (h : GG k env st mm pc a' b') : GG k env st mm pc a b :=
  fun H locs ls z hR hl hls => W.widen h1 h2 (h H locs ls z hR hl hls)
/-- fewer locals are known -/
theorem GG_sub {k : QC} {env env' : List (Nat × Value)} {st : List Value} {mm : QM} {pc a b : Nat} (ps : List Nat) (hp : lv_pick env ps = env') (h : GG k env' st mm pc a b) : GG k env st mm pc a b :=
  fun H locs ls z hR hl hls => h H locs ls z hR hl (lv_sub hls ps hp)
section R4
variable {k : QC} {cc : ByteArray} {own : String} {env env' : List (Nat × Value)} {st : List Value} {mm : QM} {pc a b : Nat}
theorem CX.kn {c : Nat} {q : vw_C} (X : CX k cc own) (h : vwCl[c]? = some q) : u_Kn (ks k) q.1 q.2.1 q.2.2 ((kD k).1 c) ((kD k).2 c) := X.2.2.2.2.2.1 c q h
theorem g_iadd {x y : Int32} (X : CX k cc own) (hdg : decode cc pc = .ok (.iadd, 1)) (h : GG k env (.int (x + y) :: st) mm (pc + 1) a b) : GG k env (.int y :: .int x :: st) mm pc a b :=
  fun H locs ls z hR hl hls => lv_iadd X.1 X.2.1 hdg (h H locs ls z hR hl hls)
theorem g_isub {x y : Int32} (X : CX k cc own) (hdg : decode cc pc = .ok (.isub, 1)) (h : GG k env (.int (x - y) :: st) mm (pc + 1) a b) : GG k env (.int y :: .int x :: st) mm pc a b :=
  fun H locs ls z hR hl hls => lv_isub X.1 X.2.1 hdg (h H locs ls z hR hl hls)
theorem g_imul {x y : Int32} (X : CX k cc own) (hdg : decode cc pc = .ok (.imul, 1)) (h : GG k env (.int (x * y) :: st) mm (pc + 1) a b) : GG k env (.int y :: .int x :: st) mm pc a b :=
  fun H locs ls z hR hl hls => lv_imul X.1 X.2.1 hdg (h H locs ls z hR hl hls)
theorem g_iand {x y : Int32} (X : CX k cc own) (hdg : decode cc pc = .ok (.iand, 1)) (h : GG k env (.int (x &&& y) :: st) mm (pc + 1) a b) : GG k env (.int y :: .int x :: st) mm pc a b :=
  fun H locs ls z hR hl hls => lv_iand X.1 X.2.1 hdg (h H locs ls z hR hl hls)
theorem g_ior {x y : Int32} (X : CX k cc own) (hdg : decode cc pc = .ok (.ior, 1)) (h : GG k env (.int (x ||| y) :: st) mm (pc + 1) a b) : GG k env (.int y :: .int x :: st) mm pc a b :=
  fun H locs ls z hR hl hls => lv_ior X.1 X.2.1 hdg (h H locs ls z hR hl hls)
theorem g_ixor {x y : Int32} (X : CX k cc own) (hdg : decode cc pc = .ok (.ixor, 1)) (h : GG k env (.int (x ^^^ y) :: st) mm (pc + 1) a b) : GG k env (.int y :: .int x :: st) mm pc a b :=
  fun H locs ls z hR hl hls => lv_ixor X.1 X.2.1 hdg (h H locs ls z hR hl hls)
theorem g_ishl {x y : Int32} (X : CX k cc own) (hdg : decode cc pc = .ok (.ishl, 1)) (h : GG k env (.int (x <<< (y &&& 31)) :: st) mm (pc + 1) a b) : GG k env (.int y :: .int x :: st) mm pc a b :=
  fun H locs ls z hR hl hls => lv_ishl X.1 X.2.1 hdg (h H locs ls z hR hl hls)
theorem g_ishr {x y : Int32} (X : CX k cc own) (hdg : decode cc pc = .ok (.ishr, 1)) (h : GG k env (.int (x >>> (y &&& 31)) :: st) mm (pc + 1) a b) : GG k env (.int y :: .int x :: st) mm pc a b :=
  fun H locs ls z hR hl hls => lv_ishr X.1 X.2.1 hdg (h H locs ls z hR hl hls)
theorem g_ladd {x y : Int64} (X : CX k cc own) (hdg : decode cc pc = .ok (.ladd, 1)) (h : GG k env (.long (x + y) :: st) mm (pc + 1) a b) : GG k env (.long y :: .long x :: st) mm pc a b :=
  fun H locs ls z hR hl hls => lv_ladd X.1 X.2.1 hdg (h H locs ls z hR hl hls)
theorem g_lsub {x y : Int64} (X : CX k cc own) (hdg : decode cc pc = .ok (.lsub, 1)) (h : GG k env (.long (x - y) :: st) mm (pc + 1) a b) : GG k env (.long y :: .long x :: st) mm pc a b :=
  fun H locs ls z hR hl hls => lv_lsub X.1 X.2.1 hdg (h H locs ls z hR hl hls)
theorem g_land {x y : Int64} (X : CX k cc own) (hdg : decode cc pc = .ok (.land, 1)) (h : GG k env (.long (x &&& y) :: st) mm (pc + 1) a b) : GG k env (.long y :: .long x :: st) mm pc a b :=
  fun H locs ls z hR hl hls => lv_land X.1 X.2.1 hdg (h H locs ls z hR hl hls)
theorem g_lor {x y : Int64} (X : CX k cc own) (hdg : decode cc pc = .ok (.lor, 1)) (h : GG k env (.long (x ||| y) :: st) mm (pc + 1) a b) : GG k env (.long y :: .long x :: st) mm pc a b :=
  fun H locs ls z hR hl hls => lv_lor X.1 X.2.1 hdg (h H locs ls z hR hl hls)
theorem g_lxor {x y : Int64} (X : CX k cc own) (hdg : decode cc pc = .ok (.lxor, 1)) (h : GG k env (.long (x ^^^ y) :: st) mm (pc + 1) a b) : GG k env (.long y :: .long x :: st) mm pc a b :=
  fun H locs ls z hR hl hls => lv_lxor X.1 X.2.1 hdg (h H locs ls z hR hl hls)
theorem g_lshl {x : Int64} {y : Int32} (X : CX k cc own) (hdg : decode cc pc = .ok (.lshl, 1)) (h : GG k env (.long (x <<< (y.toInt64 &&& 63)) :: st) mm (pc + 1) a b) : GG k env (.int y :: .long x :: st) mm pc a b :=
  fun H locs ls z hR hl hls => lv_lshl X.1 X.2.1 hdg rfl (h H locs ls z hR hl hls)
theorem g_lshr {x : Int64} {y : Int32} (X : CX k cc own) (hdg : decode cc pc = .ok (.lshr, 1)) (h : GG k env (.long (x >>> (y.toInt64 &&& 63)) :: st) mm (pc + 1) a b) : GG k env (.int y :: .long x :: st) mm pc a b :=
  fun H locs ls z hR hl hls => lv_lshr X.1 X.2.1 hdg rfl (h H locs ls z hR hl hls)
theorem g_lushr {x : Int64} {y : Int32} (X : CX k cc own) (hdg : decode cc pc = .ok (.lushr, 1)) (h : GG k env (.long (x.toUInt64 >>> (y.toInt64.toUInt64 &&& Int64.toUInt64 63)).toInt64 :: st) mm (pc + 1) a b) : GG k env (.int y :: .long x :: st) mm pc a b :=
  fun H locs ls z hR hl hls => lv_lushr X.1 X.2.1 hdg rfl (h H locs ls z hR hl hls)
theorem g_iushr {x y : Int32} (X : CX k cc own) (hdg : decode cc pc = .ok (.iushr, 1)) (h : GG k env (.int (x.toUInt32 >>> (y.toUInt32 &&& Int32.toUInt32 31)).toInt32 :: st) mm (pc + 1) a b) : GG k env (.int y :: .int x :: st) mm pc a b :=
  fun H locs ls z hR hl hls => lv_iushr X.1 X.2.1 hdg rfl (h H locs ls z hR hl hls)
theorem g_lcmp {x y : Int64} (X : CX k cc own) (hdg : decode cc pc = .ok (.lcmp, 1)) (h : GG k env (.int (lg_cmp x y) :: st) mm (pc + 1) a b) : GG k env (.long y :: .long x :: st) mm pc a b :=
  fun H locs ls z hR hl hls => W.lcmp X.1 X.2.1 hdg (h H locs ls z hR hl hls)
theorem g_i2l {x : Int32} (X : CX k cc own) (hdg : decode cc pc = .ok (.i2l, 1)) (h : GG k env (.long x.toInt64 :: st) mm (pc + 1) a b) : GG k env (.int x :: st) mm pc a b :=
  fun H locs ls z hR hl hls => lv_i2l X.1 X.2.1 hdg rfl (h H locs ls z hR hl hls)
theorem g_l2i {x : Int64} (X : CX k cc own) (hdg : decode cc pc = .ok (.l2i, 1)) (h : GG k env (.int x.toInt32 :: st) mm (pc + 1) a b) : GG k env (.long x :: st) mm pc a b :=
  fun H locs ls z hR hl hls => lv_l2i X.1 X.2.1 hdg rfl (h H locs ls z hR hl hls)
theorem g_i2c {x : Int32} (X : CX k cc own) (hdg : decode cc pc = .ok (.i2c, 1)) (h : GG k env (.int (x.toUInt32 % 65536).toInt32 :: st) mm (pc + 1) a b) : GG k env (.int x :: st) mm pc a b :=
  fun H locs ls z hR hl hls => lv_i2c X.1 X.2.1 hdg rfl (h H locs ls z hR hl hls)
theorem g_idiv {x y : Int32} (X : CX k cc own) (hdg : decode cc pc = .ok (.idiv, 1)) (hne : ¬ y = 0) (h : GG k env (.int (x / y) :: st) mm (pc + 1) a b) : GG k env (.int y :: .int x :: st) mm pc a b :=
  fun H locs ls z hR hl hls => lv_idiv X.1 X.2.1 hdg hne (h H locs ls z hR hl hls)
theorem g_irem {x y : Int32} (X : CX k cc own) (hdg : decode cc pc = .ok (.irem, 1)) (hne : ¬ y = 0) (h : GG k env (.int (x - x / y * y) :: st) mm (pc + 1) a b) : GG k env (.int y :: .int x :: st) mm pc a b :=
  fun H locs ls z hR hl hls => lv_irem X.1 X.2.1 hdg hne (h H locs ls z hR hl hls)
theorem g_iconst {n : Int} {v : Int32} (X : CX k cc own) (hdg : decode cc pc = .ok (.iconst n, 1)) (hv : Int32.ofInt n = v) (h : GG k env (.int v :: st) mm (pc + 1) a b) : GG k env st mm pc a b :=
  fun H locs ls z hR hl hls => lv_iconst X.1 X.2.1 hdg hv (h H locs ls z hR hl hls)
theorem g_bipush {n : Int} {v : Int32} (X : CX k cc own) (hdg : decode cc pc = .ok (.bipush n, 2)) (hv : (Int8.ofInt n).toInt32 = v) (h : GG k env (.int v :: st) mm (pc + 2) a b) : GG k env st mm pc a b :=
  fun H locs ls z hR hl hls => lv_bipush X.1 X.2.1 hdg hv (h H locs ls z hR hl hls)
theorem g_sipush {n : Int} {v : Int32} (X : CX k cc own) (hdg : decode cc pc = .ok (.sipush n, 3)) (hv : (Int16.ofInt n).toInt32 = v) (h : GG k env (.int v :: st) mm (pc + 3) a b) : GG k env st mm pc a b :=
  fun H locs ls z hR hl hls => lv_sipush X.1 X.2.1 hdg hv (h H locs ls z hR hl hls)
theorem g_ldc {i : Nat} {v : Int32} (X : CX k cc own) (hdg : decode cc pc = .ok (.ldc i, 2)) (hw : Cond.constant own i v ∈ qW) (h : GG k env (.int v :: st) mm (pc + 2) a b) : GG k env st mm pc a b :=
  fun H locs ls z hR hl hls => lv_ldc X.1 X.2.1 X.2.2.2.1 (X.2.2.2.2.1 _ hw) hdg (h H locs ls z hR hl hls)
theorem g_ldc2 {i : Nat} {v : Int64} (X : CX k cc own) (hdg : decode cc pc = .ok (.ldc2_w i, 3)) (hw : Cond.constantLong own i v ∈ qW) (h : GG k env (.long v :: st) mm (pc + 3) a b) : GG k env st mm pc a b :=
  fun H locs ls z hR hl hls => lv_ldc2 X.1 X.2.1 X.2.2.2.1 (X.2.2.2.2.1 _ hw) hdg (h H locs ls z hR hl hls)
theorem g_lconst {n : Fin 2} {v : Int64} (X : CX k cc own) (hdg : decode cc pc = .ok (.lconst n, 1)) (hv : Int64.ofNat (n : Nat) = v) (h : GG k env (.long v :: st) mm (pc + 1) a b) : GG k env st mm pc a b :=
  fun H locs ls z hR hl hls => lv_lconst X.1 X.2.1 hdg hv (h H locs ls z hR hl hls)
theorem g_null (X : CX k cc own) (hdg : decode cc pc = .ok (.aconst_null, 1)) (h : GG k env (va_rf none :: st) mm (pc + 1) a b) : GG k env st mm pc a b :=
  fun H locs ls z hR hl hls => lv_null X.1 X.2.1 hdg (h H locs ls z hR hl hls)
theorem g_dup {r : Option Nat} (X : CX k cc own) (hdg : decode cc pc = .ok (.dup, 1)) (h : GG k env (va_rf r :: va_rf r :: st) mm (pc + 1) a b) : GG k env (va_rf r :: st) mm pc a b :=
  fun H locs ls z hR hl hls => lv_dup X.1 X.2.1 hdg (by cases r <;> rfl) (h H locs ls z hR hl hls)
theorem g_dup2 {r : Option Nat} {x : Int32} (X : CX k cc own) (hdg : decode cc pc = .ok (.dup2, 1)) (h : GG k env (.int x :: va_rf r :: .int x :: va_rf r :: st) mm (pc + 1) a b) : GG k env (.int x :: va_rf r :: st) mm pc a b :=
  fun H locs ls z hR hl hls => lv_dup2_11 X.1 X.2.1 hdg rfl (by cases r <;> rfl) (h H locs ls z hR hl hls)
theorem g_pop {v : Value} (X : CX k cc own) (hdg : decode cc pc = .ok (.pop, 1)) (hv : v.category = 1) (h : GG k env st mm (pc + 1) a b) : GG k env (v :: st) mm pc a b :=
  fun H locs ls z hR hl hls => lv_pop X.1 X.2.1 hdg hv (h H locs ls z hR hl hls)
theorem g_goto {off : Int} {tgt : Nat} (X : CX k cc own) (hdg : decode cc pc = .ok (.goto off, 3)) (ht : (pc : Int) + off = (tgt : Int)) (h : GG k env st mm tgt a b) : GG k env st mm pc a b :=
  fun H locs ls z hR hl hls => lv_goto X.1 X.2.1 hdg ht (h H locs ls z hR hl hls)
/- locals -/
theorem g_iload_n {n : Fin 4} {x : Int32} {i : Nat} (j : Nat) (X : CX k cc own) (hdg : decode cc pc = .ok (.iload_n n, 1)) (hi : (n : Nat) = i) (he : env[j]? = some (i, .int x)) (h : GG k env (.int x :: st) mm (pc + 1) a b) : GG k env st mm pc a b :=
  fun H locs ls z hR hl hls => lv_iload_n X.1 X.2.1 hdg hi (lv_at hls j he) (h H locs ls z hR hl hls)
theorem g_iload {i : Nat} {x : Int32} (j : Nat) (X : CX k cc own) (hdg : decode cc pc = .ok (.iload i, 2)) (he : env[j]? = some (i, .int x)) (h : GG k env (.int x :: st) mm (pc + 2) a b) : GG k env st mm pc a b :=
  fun H locs ls z hR hl hls => lv_iload X.1 X.2.1 hdg (lv_at hls j he) (h H locs ls z hR hl hls)
theorem g_lload_n {n : Fin 4} {x : Int64} {i : Nat} (j : Nat) (X : CX k cc own) (hdg : decode cc pc = .ok (.lload_n n, 1)) (hi : (n : Nat) = i) (he : env[j]? = some (i, .long x)) (h : GG k env (.long x :: st) mm (pc + 1) a b) : GG k env st mm pc a b :=
  fun H locs ls z hR hl hls => lv_lload_n X.1 X.2.1 hdg hi (lv_at hls j he) (h H locs ls z hR hl hls)
theorem g_lload {i : Nat} {x : Int64} (j : Nat) (X : CX k cc own) (hdg : decode cc pc = .ok (.lload i, 2)) (he : env[j]? = some (i, .long x)) (h : GG k env (.long x :: st) mm (pc + 2) a b) : GG k env st mm pc a b :=
  fun H locs ls z hR hl hls => lv_lload X.1 X.2.1 hdg (lv_at hls j he) (h H locs ls z hR hl hls)
theorem g_aload_n {n : Fin 4} {r : Option Nat} {i : Nat} (j : Nat) (X : CX k cc own) (hdg : decode cc pc = .ok (.aload_n n, 1)) (hi : (n : Nat) = i) (he : env[j]? = some (i, va_rf r)) (h : GG k env (va_rf r :: st) mm (pc + 1) a b) : GG k env st mm pc a b := by
  intro H locs ls z hR hl hls
  have h1 := h H locs ls z hR hl hls
  have h2 := lv_at hls j he
  cases r with
  | none => exact lv_aload_nN X.1 X.2.1 hdg hi h2 h1
  | some q => exact lv_aload_n X.1 X.2.1 hdg hi h2 h1
theorem g_aload {i : Nat} {r : Option Nat} (j : Nat) (X : CX k cc own) (hdg : decode cc pc = .ok (.aload i, 2)) (he : env[j]? = some (i, va_rf r)) (h : GG k env (va_rf r :: st) mm (pc + 2) a b) : GG k env st mm pc a b := by
  intro H locs ls z hR hl hls
  have h1 := h H locs ls z hR hl hls
  have h2 := lv_at hls j he
  cases r with
  | none => exact lv_aloadN X.1 X.2.1 hdg h2 h1
  | some q => exact lv_aload X.1 X.2.1 hdg h2 h1
def e1 (env : List (Nat × Value)) (i : Nat) (v : Value) : List (Nat × Value) := (i, v) :: env.filter (fun q => !(q.1 == i) && !(q.1 + 1 == i && q.2.category == 2))
def e2 (env : List (Nat × Value)) (i : Nat) (v : Value) : List (Nat × Value) := (i, v) :: env.filter (fun q => !(q.1 == i) && (!(q.1 == i + 1) && !(q.1 + 1 == i && q.2.category == 2)))
theorem g_istore_n {n : Fin 4} {x : Int32} {i : Nat} (X : CX k cc own) (hdg : decode cc pc = .ok (.istore_n n, 1)) (hi : (n : Nat) = i) (hn : i < knL k) (he : e1 env i (.int x) = env') (h : GG k env' st mm (pc + 1) a b) : GG k env (.int x :: st) mm pc a b :=
  fun H locs ls z hR hl hls => lv_istore_n X.1 X.2.1 hdg hi hls hn he (fun ls' hls' => h H locs ls' z hR hl hls')
theorem g_istore {i : Nat} {x : Int32} (X : CX k cc own) (hdg : decode cc pc = .ok (.istore i, 2)) (hn : i < knL k) (he : e1 env i (.int x) = env') (h : GG k env' st mm (pc + 2) a b) : GG k env (.int x :: st) mm pc a b :=
  fun H locs ls z hR hl hls => lv_istore X.1 X.2.1 hdg hls hn he (fun ls' hls' => h H locs ls' z hR hl hls')
theorem g_lstore_n {n : Fin 4} {x : Int64} {i : Nat} (X : CX k cc own) (hdg : decode cc pc = .ok (.lstore_n n, 1)) (hi : (n : Nat) = i) (hn : i + 1 < knL k) (he : e2 env i (.long x) = env') (h : GG k env' st mm (pc + 1) a b) : GG k env (.long x :: st) mm pc a b :=
  fun H locs ls z hR hl hls => lv_lstore_n X.1 X.2.1 hdg hi hls hn he (fun ls' hls' => h H locs ls' z hR hl hls')
theorem g_lstore {i : Nat} {x : Int64} (X : CX k cc own) (hdg : decode cc pc = .ok (.lstore i, 2)) (hn : i + 1 < knL k) (he : e2 env i (.long x) = env') (h : GG k env' st mm (pc + 2) a b) : GG k env (.long x :: st) mm pc a b :=
  fun H locs ls z hR hl hls => lv_lstore X.1 X.2.1 hdg hls hn he (fun ls' hls' => h H locs ls' z hR hl hls')
theorem g_astore_n {n : Fin 4} {r : Option Nat} {i : Nat} (X : CX k cc own) (hdg : decode cc pc = .ok (.astore_n n, 1)) (hi : (n : Nat) = i) (hn : i < knL k) (he : e1 env i (va_rf r) = env') (h : GG k env' st mm (pc + 1) a b) : GG k env (va_rf r :: st) mm pc a b := by
  intro H locs ls z hR hl hls
  cases r with
  | none => exact lv_astore_nN X.1 X.2.1 hdg hi hls hn he (fun ls' hls' => h H locs ls' z hR hl hls')
  | some q => exact lv_astore_n X.1 X.2.1 hdg hi hls hn he (fun ls' hls' => h H locs ls' z hR hl hls')
theorem g_astore {i : Nat} {r : Option Nat} (X : CX k cc own) (hdg : decode cc pc = .ok (.astore i, 2)) (hn : i < knL k) (he : e1 env i (va_rf r) = env') (h : GG k env' st mm (pc + 2) a b) : GG k env (va_rf r :: st) mm pc a b := by
  intro H locs ls z hR hl hls
  cases r with
  | none => exact lv_astoreN X.1 X.2.1 hdg hls hn he (fun ls' hls' => h H locs ls' z hR hl hls')
  | some q => exact lv_astore X.1 X.2.1 hdg hls hn he (fun ls' hls' => h H locs ls' z hR hl hls')
theorem g_iinc {i : Nat} {n : Int} {x v : Int32} (j : Nat) (X : CX k cc own) (hdg : decode cc pc = .ok (.iinc i n, 3)) (hk : env[j]? = some (i, .int x)) (hv : x + Int32.ofInt n = v) (hn : i < knL k) (he : e1 env i (.int v) = env') (h : GG k env' st mm (pc + 3) a b) : GG k env st mm pc a b :=
  fun H locs ls z hR hl hls => lv_iinc X.1 X.2.1 hdg hls hk hv hn he (fun ls' hls' => h H locs ls' z hR hl hls')
/- branches: t the condition that jumps -/
theorem g_icmp_eq {x y : Int32} {off : Int} {tgt : Nat} (X : CX k cc own) (hdg : decode cc pc = .ok (.if_icmp .eq off, 3)) (ht : (pc : Int) + off = (tgt : Int)) (h : GG k env st mm (if x = y then tgt else pc + 3) a b) : GG k env (.int y :: .int x :: st) mm pc a b :=
  fun H locs ls z hR hl hls => lv_icmp_eq X.1 X.2.1 hdg ht (fun q => by simp only [q, not_true_eq_false, not_false_eq_true, if_true, if_false, ite_true, ite_false] at h; exact h H locs ls z hR hl hls) (fun q => by simp only [q, not_true_eq_false, not_false_eq_true, if_true, if_false, ite_true, ite_false] at h; exact h H locs ls z hR hl hls)
theorem g_icmp_ne {x y : Int32} {off : Int} {tgt : Nat} (X : CX k cc own) (hdg : decode cc pc = .ok (.if_icmp .ne off, 3)) (ht : (pc : Int) + off = (tgt : Int)) (h : GG k env st mm (if ¬ x = y then tgt else pc + 3) a b) : GG k env (.int y :: .int x :: st) mm pc a b :=
  fun H locs ls z hR hl hls => lv_icmp_ne X.1 X.2.1 hdg ht (fun q => by simp only [q, not_true_eq_false, not_false_eq_true, if_true, if_false, ite_true, ite_false] at h; exact h H locs ls z hR hl hls) (fun q => by simp only [q, not_true_eq_false, not_false_eq_true, if_true, if_false, ite_true, ite_false] at h; exact h H locs ls z hR hl hls)
theorem g_icmp_lt {x y : Int32} {off : Int} {tgt : Nat} (X : CX k cc own) (hdg : decode cc pc = .ok (.if_icmp .lt off, 3)) (ht : (pc : Int) + off = (tgt : Int)) (h : GG k env st mm (if x < y then tgt else pc + 3) a b) : GG k env (.int y :: .int x :: st) mm pc a b :=
  fun H locs ls z hR hl hls => lv_icmp_lt X.1 X.2.1 hdg ht (fun q => by simp only [q, not_true_eq_false, not_false_eq_true, if_true, if_false, ite_true, ite_false] at h; exact h H locs ls z hR hl hls) (fun q => by simp only [q, not_true_eq_false, not_false_eq_true, if_true, if_false, ite_true, ite_false] at h; exact h H locs ls z hR hl hls)
theorem g_icmp_le {x y : Int32} {off : Int} {tgt : Nat} (X : CX k cc own) (hdg : decode cc pc = .ok (.if_icmp .le off, 3)) (ht : (pc : Int) + off = (tgt : Int)) (h : GG k env st mm (if x ≤ y then tgt else pc + 3) a b) : GG k env (.int y :: .int x :: st) mm pc a b :=
  fun H locs ls z hR hl hls => lv_icmp_le X.1 X.2.1 hdg ht (fun q => by simp only [q, not_true_eq_false, not_false_eq_true, if_true, if_false, ite_true, ite_false] at h; exact h H locs ls z hR hl hls) (fun q => by simp only [q, not_true_eq_false, not_false_eq_true, if_true, if_false, ite_true, ite_false] at h; exact h H locs ls z hR hl hls)
theorem g_icmp_gt {x y : Int32} {off : Int} {tgt : Nat} (X : CX k cc own) (hdg : decode cc pc = .ok (.if_icmp .gt off, 3)) (ht : (pc : Int) + off = (tgt : Int)) (h : GG k env st mm (if y < x then tgt else pc + 3) a b) : GG k env (.int y :: .int x :: st) mm pc a b :=
  fun H locs ls z hR hl hls => lv_icmp_gt X.1 X.2.1 hdg ht (fun q => by simp only [q, not_true_eq_false, not_false_eq_true, if_true, if_false, ite_true, ite_false] at h; exact h H locs ls z hR hl hls) (fun q => by simp only [q, not_true_eq_false, not_false_eq_true, if_true, if_false, ite_true, ite_false] at h; exact h H locs ls z hR hl hls)
theorem g_icmp_ge {x y : Int32} {off : Int} {tgt : Nat} (X : CX k cc own) (hdg : decode cc pc = .ok (.if_icmp .ge off, 3)) (ht : (pc : Int) + off = (tgt : Int)) (h : GG k env st mm (if y ≤ x then tgt else pc + 3) a b) : GG k env (.int y :: .int x :: st) mm pc a b :=
  fun H locs ls z hR hl hls => lv_icmp_ge X.1 X.2.1 hdg ht (fun q => by simp only [q, not_true_eq_false, not_false_eq_true, if_true, if_false, ite_true, ite_false] at h; exact h H locs ls z hR hl hls) (fun q => by simp only [q, not_true_eq_false, not_false_eq_true, if_true, if_false, ite_true, ite_false] at h; exact h H locs ls z hR hl hls)
theorem g_if_eq {x : Int32} {off : Int} {tgt : Nat} (X : CX k cc own) (hdg : decode cc pc = .ok (.ifCond .eq off, 3)) (ht : (pc : Int) + off = (tgt : Int)) (h : GG k env st mm (if x = 0 then tgt else pc + 3) a b) : GG k env (.int x :: st) mm pc a b :=
  fun H locs ls z hR hl hls => lv_if_eq X.1 X.2.1 hdg ht (fun q => by simp only [q, not_true_eq_false, not_false_eq_true, if_true, if_false, ite_true, ite_false] at h; exact h H locs ls z hR hl hls) (fun q => by simp only [q, not_true_eq_false, not_false_eq_true, if_true, if_false, ite_true, ite_false] at h; exact h H locs ls z hR hl hls)
theorem g_if_ne {x : Int32} {off : Int} {tgt : Nat} (X : CX k cc own) (hdg : decode cc pc = .ok (.ifCond .ne off, 3)) (ht : (pc : Int) + off = (tgt : Int)) (h : GG k env st mm (if ¬ x = 0 then tgt else pc + 3) a b) : GG k env (.int x :: st) mm pc a b :=
  fun H locs ls z hR hl hls => lv_if_ne X.1 X.2.1 hdg ht (fun q => by simp only [q, not_true_eq_false, not_false_eq_true, if_true, if_false, ite_true, ite_false] at h; exact h H locs ls z hR hl hls) (fun q => by simp only [q, not_true_eq_false, not_false_eq_true, if_true, if_false, ite_true, ite_false] at h; exact h H locs ls z hR hl hls)
theorem g_if_lt {x : Int32} {off : Int} {tgt : Nat} (X : CX k cc own) (hdg : decode cc pc = .ok (.ifCond .lt off, 3)) (ht : (pc : Int) + off = (tgt : Int)) (h : GG k env st mm (if x < 0 then tgt else pc + 3) a b) : GG k env (.int x :: st) mm pc a b :=
  fun H locs ls z hR hl hls => lv_if_lt X.1 X.2.1 hdg ht (fun q => by simp only [q, not_true_eq_false, not_false_eq_true, if_true, if_false, ite_true, ite_false] at h; exact h H locs ls z hR hl hls) (fun q => by simp only [q, not_true_eq_false, not_false_eq_true, if_true, if_false, ite_true, ite_false] at h; exact h H locs ls z hR hl hls)
theorem g_if_le {x : Int32} {off : Int} {tgt : Nat} (X : CX k cc own) (hdg : decode cc pc = .ok (.ifCond .le off, 3)) (ht : (pc : Int) + off = (tgt : Int)) (h : GG k env st mm (if x ≤ 0 then tgt else pc + 3) a b) : GG k env (.int x :: st) mm pc a b :=
  fun H locs ls z hR hl hls => lv_if_le X.1 X.2.1 hdg ht (fun q => by simp only [q, not_true_eq_false, not_false_eq_true, if_true, if_false, ite_true, ite_false] at h; exact h H locs ls z hR hl hls) (fun q => by simp only [q, not_true_eq_false, not_false_eq_true, if_true, if_false, ite_true, ite_false] at h; exact h H locs ls z hR hl hls)
theorem g_if_gt {x : Int32} {off : Int} {tgt : Nat} (X : CX k cc own) (hdg : decode cc pc = .ok (.ifCond .gt off, 3)) (ht : (pc : Int) + off = (tgt : Int)) (h : GG k env st mm (if 0 < x then tgt else pc + 3) a b) : GG k env (.int x :: st) mm pc a b :=
  fun H locs ls z hR hl hls => lv_if_gt X.1 X.2.1 hdg ht (fun q => by simp only [q, not_true_eq_false, not_false_eq_true, if_true, if_false, ite_true, ite_false] at h; exact h H locs ls z hR hl hls) (fun q => by simp only [q, not_true_eq_false, not_false_eq_true, if_true, if_false, ite_true, ite_false] at h; exact h H locs ls z hR hl hls)
theorem g_if_ge {x : Int32} {off : Int} {tgt : Nat} (X : CX k cc own) (hdg : decode cc pc = .ok (.ifCond .ge off, 3)) (ht : (pc : Int) + off = (tgt : Int)) (h : GG k env st mm (if 0 ≤ x then tgt else pc + 3) a b) : GG k env (.int x :: st) mm pc a b :=
  fun H locs ls z hR hl hls => lv_if_ge X.1 X.2.1 hdg ht (fun q => by simp only [q, not_true_eq_false, not_false_eq_true, if_true, if_false, ite_true, ite_false] at h; exact h H locs ls z hR hl hls) (fun q => by simp only [q, not_true_eq_false, not_false_eq_true, if_true, if_false, ite_true, ite_false] at h; exact h H locs ls z hR hl hls)
theorem g_acmp_eq {x y : Option Nat} {off : Int} {tgt : Nat} (X : CX k cc own) (hdg : decode cc pc = .ok (.if_acmp .eq off, 3)) (ht : (pc : Int) + off = (tgt : Int)) (h : GG k env st mm (if x = y then tgt else pc + 3) a b) : GG k env (va_rf y :: va_rf x :: st) mm pc a b :=
  fun H locs ls z hR hl hls => lv_acmp_eq X.1 X.2.1 hdg ht (fun q => by simp only [q, not_true_eq_false, not_false_eq_true, if_true, if_false, ite_true, ite_false] at h; exact h H locs ls z hR hl hls) (fun q => by simp only [q, not_true_eq_false, not_false_eq_true, if_true, if_false, ite_true, ite_false] at h; exact h H locs ls z hR hl hls)
theorem g_acmp_ne {x y : Option Nat} {off : Int} {tgt : Nat} (X : CX k cc own) (hdg : decode cc pc = .ok (.if_acmp .ne off, 3)) (ht : (pc : Int) + off = (tgt : Int)) (h : GG k env st mm (if ¬ x = y then tgt else pc + 3) a b) : GG k env (va_rf y :: va_rf x :: st) mm pc a b :=
  fun H locs ls z hR hl hls => lv_acmp_ne X.1 X.2.1 hdg ht (fun q => by simp only [q, not_true_eq_false, not_false_eq_true, if_true, if_false, ite_true, ite_false] at h; exact h H locs ls z hR hl hls) (fun q => by simp only [q, not_true_eq_false, not_false_eq_true, if_true, if_false, ite_true, ite_false] at h; exact h H locs ls z hR hl hls)
theorem g_ifnull {r : Option Nat} {off : Int} {tgt : Nat} (X : CX k cc own) (hdg : decode cc pc = .ok (.ifnull off, 3)) (ht : (pc : Int) + off = (tgt : Int)) (h : GG k env st mm (if r = none then tgt else pc + 3) a b) : GG k env (va_rf r :: st) mm pc a b := by
  intro H locs ls z hR hl hls
  cases r with
  | none => exact lv_ifnullN X.1 X.2.1 hdg ht (h H locs ls z hR hl hls)
  | some q => exact lv_ifnull X.1 X.2.1 hdg (h H locs ls z hR hl hls)
theorem g_ifnonnull {r : Option Nat} {off : Int} {tgt : Nat} (X : CX k cc own) (hdg : decode cc pc = .ok (.ifnonnull off, 3)) (ht : (pc : Int) + off = (tgt : Int)) (h : GG k env st mm (if r = none then pc + 3 else tgt) a b) : GG k env (va_rf r :: st) mm pc a b := by
  intro H locs ls z hR hl hls
  cases r with
  | none => exact lv_ifnonnullN X.1 X.2.1 hdg (h H locs ls z hR hl hls)
  | some q => exact lv_ifnonnull X.1 X.2.1 hdg ht (h H locs ls z hR hl hls)
/- fields -/
theorem g_get {c j i q : Nat} {C : String} {T : u_T} {N : Nat} {v : Value} (X : CX k cc own) (hc : vwCl[c]? = some (C, T, N)) (hin : ∀ w ∈ u_ws C T N, w ∈ qW) (hj : j < N) (hl : Cond.fieldLink own i (T j).1 (T j).2.1 (T j).2.2.1 ∈ qW) (hdg : decode cc pc = .ok (.getfield i, 3)) (ht : qty mm q = (1, c, 0)) (hv : qfv mm c q j = v)
    (h : GG k env (v :: st) mm (pc + 3) a b) : GG k env (.ref q :: st) mm pc a b := by
  intro H locs ls z hR hl' hls
  obtain ⟨-, -, c1⟩ := hR.2.2.2 q (by rw [ht]; exact Nat.one_ne_zero)
  obtain ⟨r, h1, cell, q1, q2, q3, q4⟩ := c1.1 (by rw [ht])
  rw [ht] at h1 q2 q4
  have hr : r = (C, T, N) := Option.some.inj (h1.symm.trans hc)
  subst hr
  obtain ⟨hS, hfc, kC, hkC, hkind⟩ := X.kn hc
  obtain ⟨cf, kf, fi, f, hi, hsl⟩ := hS j hj
  refine W.getf X.1 X.2.1 X.2.2.2.1 (X.2.2.2.2.1 _ hl) hi (u_facts hfc hkC (u_lays (fun w hw => X.2.2.2.2.1 w hw) hin hj) hi).1 q1 (by rw [q3]; exact fun h => by cases h) (v := v) ?_ rfl rfl hdg (h H locs ls z hR hl' hls)
  rw [hsl, q4 j hj]
  exact congrArg some hv
theorem g_apart {c : Nat} {C : String} {T : u_T} {N : Nat} (X : CX k cc own) (hc : vwCl[c]? = some (C, T, N)) (hin : ∀ w ∈ u_ws C T N, w ∈ qW) (hnm : ∀ a, a < N → ∀ b, b < N → a ≠ b → (T a).2.1 ≠ (T b).2.1) (ty0 : Nat → FieldType) (hty : ∀ k, k < N → parseFieldDescriptor (T k).2.2.1 = some (ty0 k)) :
    ∀ a b, a < N → b < N → a ≠ b → (kD k).2 c a ≠ (kD k).2 c b :=
  va_apart (own := own) (D := kD k) (cl := vwCl) (tys := []) (s := ks k) (args := ka k) (fun w hw => X.2.2.2.2.1 w hw) hin ty0 hty hnm ⟨X.2.2.2.2.2.1, fun k q h => by simp at h⟩ hc
/-- the cell behind a field's write -/
theorem g_putcell {c q j : Nat} {C : String} {T : u_T} {N : Nat} {mm' : QM} {cell : Cell} {H H' : Heap} {v : Value} (hc : vwCl[c]? = some (C, T, N)) (ht : qty mm' q = (1, c, 0)) (hj : j < N) (hap : ∀ a b, a < N → b < N → a ≠ b → (kD k).2 c a ≠ (kD k).2 c b)
    (q2 : cell.cls = (kD k).1 c) (q3 : cell.vm = .none) (q4 : ∀ i, i < N → cell.slots[(kD k).2 c i]? = some (qfv mm c q i)) (e1 : H'[q]? = some (cell.setSlot ((kD k).2 c j) v)) (hv : ∀ i, i < N → updV (qfv mm c q) j v i = qfv mm' c q i) : qcell (kD k) (kDA k) mm' q H' := by
  refine ⟨fun _ => ?_, fun e => ?_, fun e => ?_, fun e => ?_⟩
  · rw [ht]
    exact ⟨_, hc, t_OB.to (V := updV (qfv mm c q) j v) ⟨_, e1, q2, q3, t_set q4 hap hj v⟩ hv⟩
  all_goals (rw [ht] at e; simp at e)
theorem g_put {c j i q : Nat} {C : String} {T : u_T} {N : Nat} {v : Value} {mm' : QM} {ty : FieldType} (ty0 : Nat → FieldType) (X : CX k cc own) (hc : vwCl[c]? = some (C, T, N)) (hin : ∀ w ∈ u_ws C T N, w ∈ qW) (hty : ∀ k, k < N → parseFieldDescriptor (T k).2.2.1 = some (ty0 k)) (hnm : ∀ a, a < N → ∀ b, b < N → a ≠ b → (T a).2.1 ≠ (T b).2.1)
    (hj : j < N) (hl : Cond.fieldLink own i (T j).1 (T j).2.1 (T j).2.2.1 ∈ qW) (hfin : (T j).2.2.2 = false ∨ ((kmeth k).name = "<init>" ∧ (T j).2.2.2 = true ∧ (T j).1 = own)) (hd : parseFieldDescriptor (T j).2.2.1 = some ty) (hn : narrow ty v = v) (hfit : fits ty v = true) (hdg : decode cc pc = .ok (.putfield i, 3)) (ht : qty mm q = (1, c, 0))
    (hput : ∀ H H' : Heap, HR (kD k) (kDA k) (kHs k) mm H → H'.size = H.size → (∀ p : Nat, p ≠ q → H'[p]? = H[p]?) → qcell (kD k) (kDA k) mm' q H' → HR (kD k) (kDA k) (kHs k) mm' H') (ht' : qty mm' q = (1, c, 0)) (hv : ∀ i, i < N → updV (qfv mm c q) j v i = qfv mm' c q i)
    (h : GG k env st mm' (pc + 3) a b) : GG k env (v :: .ref q :: st) mm pc a b := by
  intro H locs ls z hR hl' hls
  have hap := g_apart X hc hin hnm ty0 hty
  obtain ⟨hq, -, c1⟩ := hR.2.2.2 q (by rw [ht]; exact Nat.one_ne_zero)
  obtain ⟨r, h1, cell, q1, q2, q3, q4⟩ := c1.1 (by rw [ht])
  rw [ht] at h1 q2 q4
  have hr : r = (C, T, N) := Option.some.inj (h1.symm.trans hc)
  subst hr
  obtain ⟨hS, hfc, kC, hkC, hkind⟩ := X.kn hc
  obtain ⟨cf, kf, fi, f, hi, hsl⟩ := hS j hj
  have hlay := (fun w hw => X.2.2.2.2.1 w hw : ∀ w ∈ qW, w.before (ka k) (ks k) = true) _ (hin _ (u_in_lay hj))
  have hst := (u_facts hfc hkC (u_lays (fun w hw => X.2.2.2.2.1 w hw) hin hj) hi).1
  have hlocs : ∀ y ∈ locs ++ [⟨q, f.slot⟩], (kHs k).size ≤ y.base := fun y hy => by
    rcases List.mem_append.mp hy with h | h
    · exact hl' y h
    · rw [List.mem_singleton] at h; subst h; exact hq
  unfold u_lay at hlay
  rcases hfin with hfin | ⟨hin2, hfin, hdecl⟩
  · rw [if_neg (by rw [hfin]; decide)] at hlay
    have h6 := u_store hfc hkC hkind hlay hi hd hn hfit
    refine W.putK X.1 X.2.1 (f := f) ⟨X.2.2.2.1, X.2.2.2.2.1 _ hl, ⟨_, _, _, hi⟩, hst⟩ (by rw [q2]; exact h6) q1 q3 (by rw [hsl]; exact k2_hasslot (q4 j hj)) rfl rfl hdg fun H' e1 e2 e3 => ?_
    rw [hsl] at e1
    exact h H' _ ls (by rw [e2]; exact z) (hput H H' hR e2 e3 (g_putcell (H := H) hc ht' hj hap q2 q3 q4 e1 hv)) hlocs hls
  · rw [if_pos hfin] at hlay
    have hcf : (km k).cls = cf := by
      obtain ⟨_, _, c', _, _, _, -, -, hf', -, -, -, hown2, -⟩ := Cond.laysFinal_spec hlay
      have e1 : c' = cf := by have := hi.symm.trans hf'; simp at this; exact this.1.symm
      rw [hdecl] at hown2
      rw [← e1]; exact Option.some.inj (X.2.2.2.1.symm.trans hown2)
    have h6 := u_fits hfc hkC hkind (Or.inr hlay) hi hd hn hfit
    refine W.putFinK X.1 X.2.1 X.2.2.2.1 (X.2.2.2.2.1 _ hl) hi hst hcf hin2 (by rw [q2]; exact h6) q1 q3 (by rw [hsl]; exact k2_hasslot (q4 j hj)) rfl rfl hdg fun H' e1 e2 e3 => ?_
    rw [hsl] at e1
    exact h H' _ ls (by rw [e2]; exact z) (hput H H' hR e2 e3 (g_putcell (H := H) hc ht' hj hap q2 q3 q4 e1 hv)) hlocs hls
end R4
