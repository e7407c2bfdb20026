/-! one step each, for the pieces -/
def xdiv (x y : Int32) : QX Int32 := fun m => if y = 0 then none else some (.ok (x / y), m)
def xrem (x y : Int32) : QX Int32 := fun m => if y = 0 then none else some (.ok (x - x / y * y), m)
/-- a value that is a truth -/
def xz (v : Int32) : QX Int32 := fun m => if v = 0 ∨ v = 1 then some (.ok v, m) else none
/-- a value that is a sign -/
def xch (v : Int32) : QX Int32 := fun m => if 0 ≤ v.toInt ∧ v.toInt < 65536 then some (.ok v, m) else none
theorem qwp_xo {α : Type} {c : Nat} {r : Option Nat} {f : Nat → QX α} {K : α → QM → Prop} {T : Nat → QM → Prop} {m : QM} (h : qwp (xo c r f) K T m) : ∃ q, r = some q ∧ qty m q = (1, c, 0) ∧ qwp (f q) K T m := by
  cases r with
  | none => exact h.elim
  | some q =>
    by_cases hq : qty m q = (1, c, 0)
    · refine ⟨q, rfl, hq, ?_⟩
      have e : xo c (some q) f m = f q m := by show (if qty m q = (1, c, 0) then f q m else none) = _; rw [if_pos hq]
      unfold qwp at h ⊢
      rw [e] at h; exact h
    · have e : xo c (some q) f m = none := by show (if qty m q = (1, c, 0) then f q m else none) = _; rw [if_neg hq]
      unfold qwp at h
      rw [e] at h; exact h.elim
theorem qwp_xat {α : Type} {t u : Nat} {r : Option Nat} {i : Int32} {f : Nat → Nat → QX α} {K : α → QM → Prop} {T : Nat → QM → Prop} {m : QM} (h : qwp (xat t u r i f) K T m) : ∃ q n, r = some q ∧ qty m q = (t, u, n) ∧ vp_in i n ∧ qwp (f q i.toNatClampNeg) K T m := by
  cases r with
  | none => exact h.elim
  | some q =>
    by_cases hq : (qty m q).1 = t ∧ (qty m q).2.1 = u ∧ 0 ≤ i.toInt ∧ i.toInt < (qty m q).2.2
    · refine ⟨q, (qty m q).2.2, rfl, ?_, vp_in_iff.mpr hq.2.2, ?_⟩
      · rw [← hq.1, ← hq.2.1]
      · have e : xat t u (some q) i f m = f q i.toNatClampNeg m := by show (if _ then _ else none) = _; rw [if_pos hq]
        unfold qwp at h ⊢
        rw [e] at h; exact h
    · have e : xat t u (some q) i f m = none := by show (if _ then _ else none) = _; rw [if_neg hq]
      unfold qwp at h
      rw [e] at h; exact h.elim
theorem qwp_ite {α : Type} {p : Prop} [Decidable p] {f : QX α} {K : α → QM → Prop} {T : Nat → QM → Prop} {m : QM} (h : qwp (fun m => if p then f m else none) K T m) : p ∧ qwp f K T m := by
  by_cases hp : p
  · refine ⟨hp, ?_⟩
    unfold qwp at h ⊢
    simp only [if_pos hp] at h
    exact h
  · unfold qwp at h
    simp only [if_neg hp] at h
section R8
variable {k : QC} {T : Nat → QM → Prop} {α β γ : Type} {env env' : List (Nat × Value)} {cc : ByteArray} {own : String} {d i : Nat}
theorem O_iadd (X : CX k cc own) (hdg : decode cc i = .ok (.iadd, 1)) : OP2 k T pI pI pI env d i (i + 1) 0 0 (fun x y => xp (x + y)) := fun _ _ _ _ _ _ _ _ _ h => g_iadd X hdg h
theorem O_isub (X : CX k cc own) (hdg : decode cc i = .ok (.isub, 1)) : OP2 k T pI pI pI env d i (i + 1) 0 0 (fun x y => xp (x - y)) := fun _ _ _ _ _ _ _ _ _ h => g_isub X hdg h
theorem O_imul (X : CX k cc own) (hdg : decode cc i = .ok (.imul, 1)) : OP2 k T pI pI pI env d i (i + 1) 0 0 (fun x y => xp (x * y)) := fun _ _ _ _ _ _ _ _ _ h => g_imul X hdg h
theorem O_iand (X : CX k cc own) (hdg : decode cc i = .ok (.iand, 1)) : OP2 k T pI pI pI env d i (i + 1) 0 0 (fun x y => xp (x &&& y)) := fun _ _ _ _ _ _ _ _ _ h => g_iand X hdg h
theorem O_ior (X : CX k cc own) (hdg : decode cc i = .ok (.ior, 1)) : OP2 k T pI pI pI env d i (i + 1) 0 0 (fun x y => xp (x ||| y)) := fun _ _ _ _ _ _ _ _ _ h => g_ior X hdg h
theorem O_ixor (X : CX k cc own) (hdg : decode cc i = .ok (.ixor, 1)) : OP2 k T pI pI pI env d i (i + 1) 0 0 (fun x y => xp (x ^^^ y)) := fun _ _ _ _ _ _ _ _ _ h => g_ixor X hdg h
theorem O_ishl (X : CX k cc own) (hdg : decode cc i = .ok (.ishl, 1)) : OP2 k T pI pI pI env d i (i + 1) 0 0 (fun x y => xp (x <<< (y &&& 31))) := fun _ _ _ _ _ _ _ _ _ h => g_ishl X hdg h
theorem O_ishr (X : CX k cc own) (hdg : decode cc i = .ok (.ishr, 1)) : OP2 k T pI pI pI env d i (i + 1) 0 0 (fun x y => xp (x >>> (y &&& 31))) := fun _ _ _ _ _ _ _ _ _ h => g_ishr X hdg h
theorem O_iushr (X : CX k cc own) (hdg : decode cc i = .ok (.iushr, 1)) : OP2 k T pI pI pI env d i (i + 1) 0 0 (fun x y => xp ((x.toUInt32 >>> (y.toUInt32 &&& Int32.toUInt32 31)).toInt32)) := fun _ _ _ _ _ _ _ _ _ h => g_iushr X hdg h
theorem O_ladd (X : CX k cc own) (hdg : decode cc i = .ok (.ladd, 1)) : OP2 k T pL pL pL env d i (i + 1) 0 0 (fun x y => xp (x + y)) := fun _ _ _ _ _ _ _ _ _ h => g_ladd X hdg h
theorem O_lsub (X : CX k cc own) (hdg : decode cc i = .ok (.lsub, 1)) : OP2 k T pL pL pL env d i (i + 1) 0 0 (fun x y => xp (x - y)) := fun _ _ _ _ _ _ _ _ _ h => g_lsub X hdg h
theorem O_land (X : CX k cc own) (hdg : decode cc i = .ok (.land, 1)) : OP2 k T pL pL pL env d i (i + 1) 0 0 (fun x y => xp (x &&& y)) := fun _ _ _ _ _ _ _ _ _ h => g_land X hdg h
theorem O_lor (X : CX k cc own) (hdg : decode cc i = .ok (.lor, 1)) : OP2 k T pL pL pL env d i (i + 1) 0 0 (fun x y => xp (x ||| y)) := fun _ _ _ _ _ _ _ _ _ h => g_lor X hdg h
theorem O_lxor (X : CX k cc own) (hdg : decode cc i = .ok (.lxor, 1)) : OP2 k T pL pL pL env d i (i + 1) 0 0 (fun x y => xp (x ^^^ y)) := fun _ _ _ _ _ _ _ _ _ h => g_lxor X hdg h
theorem O_lshl (X : CX k cc own) (hdg : decode cc i = .ok (.lshl, 1)) : OP2 k T pL pI pL env d i (i + 1) 0 0 (fun x y => xp (x <<< (y.toInt64 &&& 63))) := fun _ _ _ _ _ _ _ _ _ h => g_lshl X hdg h
theorem O_lshr (X : CX k cc own) (hdg : decode cc i = .ok (.lshr, 1)) : OP2 k T pL pI pL env d i (i + 1) 0 0 (fun x y => xp (x >>> (y.toInt64 &&& 63))) := fun _ _ _ _ _ _ _ _ _ h => g_lshr X hdg h
theorem O_lushr (X : CX k cc own) (hdg : decode cc i = .ok (.lushr, 1)) : OP2 k T pL pI pL env d i (i + 1) 0 0 (fun x y => xp ((x.toUInt64 >>> (y.toInt64.toUInt64 &&& Int64.toUInt64 63)).toInt64)) := fun _ _ _ _ _ _ _ _ _ h => g_lushr X hdg h
theorem O_idiv (X : CX k cc own) (hdg : decode cc i = .ok (.idiv, 1)) : OP2 k T pI pI pI env d i (i + 1) 0 0 xdiv := fun x y _ mm _ _ _ _ _ h => by
  by_cases hy : y = 0
  · exfalso; unfold qwp xdiv at h; simp [hy] at h
  · refine g_idiv X hdg hy ?_; unfold qwp xdiv at h; simp only [if_neg hy] at h; exact h
theorem O_irem (X : CX k cc own) (hdg : decode cc i = .ok (.irem, 1)) : OP2 k T pI pI pI env d i (i + 1) 0 0 xrem := fun x y _ mm _ _ _ _ _ h => by
  by_cases hy : y = 0
  · exfalso; unfold qwp xrem at h; simp [hy] at h
  · refine g_irem X hdg hy ?_; unfold qwp xrem at h; simp only [if_neg hy] at h; exact h
theorem O_i2l (X : CX k cc own) (hdg : decode cc i = .ok (.i2l, 1)) : OP1 k T pI pL env d i (i + 1) 0 0 (fun x => xp x.toInt64) := fun _ _ _ _ _ _ _ _ h => g_i2l X hdg h
theorem O_l2i (X : CX k cc own) (hdg : decode cc i = .ok (.l2i, 1)) : OP1 k T pL pI env d i (i + 1) 0 0 (fun x => xp x.toInt32) := fun _ _ _ _ _ _ _ _ h => g_l2i X hdg h
theorem O_i2c (X : CX k cc own) (hdg : decode cc i = .ok (.i2c, 1)) : OP1 k T pI pI env d i (i + 1) 0 0 (fun x => xp (x.toUInt32 % 65536).toInt32) := fun _ _ _ _ _ _ _ _ h => g_i2c X hdg h
theorem O_pop (X : CX k cc own) (hdg : decode cc i = .ok (.pop, 1)) : OP1 k T pI pU env d i (i + 1) 0 0 (fun _ => xp ()) := fun _ _ _ _ _ _ _ _ h => g_pop X hdg rfl h
theorem O_popR (X : CX k cc own) (hdg : decode cc i = .ok (.pop, 1)) : OP1 k T pR pU env d i (i + 1) 0 0 (fun _ => xp ()) := fun r _ _ _ _ _ _ _ h => g_pop X hdg (by cases r <;> rfl) h
/- leaves -/
theorem L_iconst {n : Int} {v : Int32} (X : CX k cc own) (hdg : decode cc i = .ok (.iconst n, 1)) (hv : Int32.ofInt n = v) : XE k T pI env d i (i + 1) 0 0 (xp v) := XE_pure fun _ _ _ _ h => g_iconst X hdg hv h
theorem L_bipush {n : Int} {v : Int32} (X : CX k cc own) (hdg : decode cc i = .ok (.bipush n, 2)) (hv : (Int8.ofInt n).toInt32 = v) : XE k T pI env d i (i + 2) 0 0 (xp v) := XE_pure fun _ _ _ _ h => g_bipush X hdg hv h
theorem L_sipush {n : Int} {v : Int32} (X : CX k cc own) (hdg : decode cc i = .ok (.sipush n, 3)) (hv : (Int16.ofInt n).toInt32 = v) : XE k T pI env d i (i + 3) 0 0 (xp v) := XE_pure fun _ _ _ _ h => g_sipush X hdg hv h
theorem L_ldc {n : Nat} {v : Int32} (X : CX k cc own) (hdg : decode cc i = .ok (.ldc n, 2)) (hw : Cond.constant own n v ∈ qW) : XE k T pI env d i (i + 2) 0 0 (xp v) := XE_pure fun _ _ _ _ h => g_ldc X hdg hw h
theorem L_ldc2 {n : Nat} {v : Int64} (X : CX k cc own) (hdg : decode cc i = .ok (.ldc2_w n, 3)) (hw : Cond.constantLong own n v ∈ qW) : XE k T pL env d i (i + 3) 0 0 (xp v) := XE_pure fun _ _ _ _ h => g_ldc2 X hdg hw h
theorem L_lconst {n : Fin 2} {v : Int64} (X : CX k cc own) (hdg : decode cc i = .ok (.lconst n, 1)) (hv : Int64.ofNat (n : Nat) = v) : XE k T pL env d i (i + 1) 0 0 (xp v) := XE_pure fun _ _ _ _ h => g_lconst X hdg hv h
theorem L_null (X : CX k cc own) (hdg : decode cc i = .ok (.aconst_null, 1)) : XE k T pR env d i (i + 1) 0 0 (xp none) := XE_pure fun _ _ _ _ h => g_null X hdg h
theorem L_iload_n {n : Fin 4} {x : Int32} {s : Nat} (j : Nat) (X : CX k cc own) (hdg : decode cc i = .ok (.iload_n n, 1)) (hi : (n : Nat) = s) (he : env[j]? = some (s, .int x)) : XE k T pI env d i (i + 1) 0 0 (xp x) := XE_pure fun _ _ _ _ h => g_iload_n j X hdg hi he h
theorem L_iload {x : Int32} {s : Nat} (j : Nat) (X : CX k cc own) (hdg : decode cc i = .ok (.iload s, 2)) (he : env[j]? = some (s, .int x)) : XE k T pI env d i (i + 2) 0 0 (xp x) := XE_pure fun _ _ _ _ h => g_iload j X hdg he h
theorem L_lload_n {n : Fin 4} {x : Int64} {s : Nat} (j : Nat) (X : CX k cc own) (hdg : decode cc i = .ok (.lload_n n, 1)) (hi : (n : Nat) = s) (he : env[j]? = some (s, .long x)) : XE k T pL env d i (i + 1) 0 0 (xp x) := XE_pure fun _ _ _ _ h => g_lload_n j X hdg hi he h
theorem L_lload {x : Int64} {s : Nat} (j : Nat) (X : CX k cc own) (hdg : decode cc i = .ok (.lload s, 2)) (he : env[j]? = some (s, .long x)) : XE k T pL env d i (i + 2) 0 0 (xp x) := XE_pure fun _ _ _ _ h => g_lload j X hdg he h
theorem L_aload_n {n : Fin 4} {r : Option Nat} {s : Nat} (j : Nat) (X : CX k cc own) (hdg : decode cc i = .ok (.aload_n n, 1)) (hi : (n : Nat) = s) (he : env[j]? = some (s, va_rf r)) : XE k T pR env d i (i + 1) 0 0 (xp r) := XE_pure fun _ _ _ _ h => g_aload_n j X hdg hi he h
theorem L_aload {r : Option Nat} {s : Nat} (j : Nat) (X : CX k cc own) (hdg : decode cc i = .ok (.aload s, 2)) (he : env[j]? = some (s, va_rf r)) : XE k T pR env d i (i + 2) 0 0 (xp r) := XE_pure fun _ _ _ _ h => g_aload j X hdg he h
/- stores into locals: for SB_let, ST_let -/
theorem S_istore_n {n : Fin 4} {s : Nat} {ev : Int32 → List (Nat × Value)} (X : CX k cc own) (hdg : decode cc i = .ok (.istore_n n, 1)) (hi : (n : Nat) = s) (hn : s < knL k) (he : ∀ v, e1 env s (.int v) = ev v) : ∀ (v : Int32) (mm : QM) (a b : Nat), GG k (ev v) [] mm (i + 1) a b → GG k env (pI v ++ []) mm i a b := fun v _ _ _ h => g_istore_n X hdg hi hn (he v) h
theorem S_istore {s : Nat} {ev : Int32 → List (Nat × Value)} (X : CX k cc own) (hdg : decode cc i = .ok (.istore s, 2)) (hn : s < knL k) (he : ∀ v, e1 env s (.int v) = ev v) : ∀ (v : Int32) (mm : QM) (a b : Nat), GG k (ev v) [] mm (i + 2) a b → GG k env (pI v ++ []) mm i a b := fun v _ _ _ h => g_istore X hdg hn (he v) h
theorem S_lstore_n {n : Fin 4} {s : Nat} {ev : Int64 → List (Nat × Value)} (X : CX k cc own) (hdg : decode cc i = .ok (.lstore_n n, 1)) (hi : (n : Nat) = s) (hn : s + 1 < knL k) (he : ∀ v, e2 env s (.long v) = ev v) : ∀ (v : Int64) (mm : QM) (a b : Nat), GG k (ev v) [] mm (i + 1) a b → GG k env (pL v ++ []) mm i a b := fun v _ _ _ h => g_lstore_n X hdg hi hn (he v) h
theorem S_lstore {s : Nat} {ev : Int64 → List (Nat × Value)} (X : CX k cc own) (hdg : decode cc i = .ok (.lstore s, 2)) (hn : s + 1 < knL k) (he : ∀ v, e2 env s (.long v) = ev v) : ∀ (v : Int64) (mm : QM) (a b : Nat), GG k (ev v) [] mm (i + 2) a b → GG k env (pL v ++ []) mm i a b := fun v _ _ _ h => g_lstore X hdg hn (he v) h
theorem S_astore_n {n : Fin 4} {s : Nat} {ev : Option Nat → List (Nat × Value)} (X : CX k cc own) (hdg : decode cc i = .ok (.astore_n n, 1)) (hi : (n : Nat) = s) (hn : s < knL k) (he : ∀ v, e1 env s (va_rf v) = ev v) : ∀ (v : Option Nat) (mm : QM) (a b : Nat), GG k (ev v) [] mm (i + 1) a b → GG k env (pR v ++ []) mm i a b := fun v _ _ _ h => g_astore_n X hdg hi hn (he v) h
theorem S_astore {s : Nat} {ev : Option Nat → List (Nat × Value)} (X : CX k cc own) (hdg : decode cc i = .ok (.astore s, 2)) (hn : s < knL k) (he : ∀ v, e1 env s (va_rf v) = ev v) : ∀ (v : Option Nat) (mm : QM) (a b : Nat), GG k (ev v) [] mm (i + 2) a b → GG k env (pR v ++ []) mm i a b := fun v _ _ _ h => g_astore X hdg hn (he v) h
theorem S_iinc {s : Nat} {n : Int} {x v : Int32} (j : Nat) (X : CX k cc own) (hdg : decode cc i = .ok (.iinc s n, 3)) (hk : env[j]? = some (s, .int x)) (hv : x + Int32.ofInt n = v) (hn : s < knL k) (he : e1 env s (.int v) = env') : ∀ (mm : QM) (a b : Nat), GG k env' [] mm (i + 3) a b → GG k env [] mm i a b := fun _ _ _ h => g_iinc j X hdg hk hv hn he h
theorem S_goto {off : Int} {tgt : Nat} (X : CX k cc own) (hdg : decode cc i = .ok (.goto off, 3)) (ht : (i : Int) + off = (tgt : Int)) : ∀ (st : List Value) (mm : QM) (a b : Nat), GG k env st mm tgt a b → GG k env st mm i a b := fun _ _ _ _ h => g_goto X hdg ht h
theorem S_b1 {off : Int} {tgt : Nat} (X : CX k cc own) (d1 : decode cc i = .ok (.iconst 1, 1)) (d2 : decode cc (i + 1) = .ok (.goto off, 3)) (ht : ((i + 1 : Nat) : Int) + off = (tgt : Int)) : ∀ (st : List Value) (mm : QM) (a b : Nat), GG k env (.int 1 :: st) mm tgt a b → GG k env st mm i a b := fun _ _ _ _ h => g_iconst X d1 (by decide) (g_goto X d2 ht h)
theorem S_b0 (X : CX k cc own) (d1 : decode cc i = .ok (.iconst 0, 1)) : ∀ (st : List Value) (mm : QM) (a b : Nat), GG k env (.int 0 :: st) mm (i + 1) a b → GG k env st mm i a b := fun _ _ _ _ h => g_iconst X d1 (by decide) h
theorem S_dup (X : CX k cc own) (hdg : decode cc i = .ok (.dup, 1)) : ∀ (r : Option Nat) (st : List Value) (mm : QM) (a b : Nat), GG k env (va_rf r :: va_rf r :: st) mm (i + 1) a b → GG k env (va_rf r :: st) mm i a b := fun _ _ _ _ _ h => g_dup X hdg h
theorem S_dup2 (X : CX k cc own) (hdg : decode cc i = .ok (.dup2, 1)) : ∀ (r : Option Nat) (n : Int32) (st : List Value) (mm : QM) (a b : Nat), GG k env (.int n :: va_rf r :: .int n :: va_rf r :: st) mm (i + 1) a b → GG k env (.int n :: va_rf r :: st) mm i a b := fun _ _ _ _ _ _ h => g_dup2 X hdg h
/- fields -/
theorem O_gi {c j n : Nat} {C : String} {Tt : u_T} {N : Nat} (X : CX k cc own) (hc : vwCl[c]? = some (C, Tt, N)) (hin : ∀ w ∈ u_ws C Tt N, w ∈ qW) (hj : j < N) (hl : Cond.fieldLink own n (Tt j).1 (Tt j).2.1 (Tt j).2.2.1 ∈ qW) (hk : qk c j = 0) (hdg : decode cc i = .ok (.getfield n, 3)) : OP1 k T pR pI env d i (i + 3) 0 0 (xgi c j) := fun r st mm a b _ _ _ h => by
  obtain ⟨q, rfl, hq, h⟩ := qwp_xo h
  exact g_get X hc hin hj hl hdg hq (by unfold qfv; rw [if_pos hk]) h
theorem O_gl {c j n : Nat} {C : String} {Tt : u_T} {N : Nat} (X : CX k cc own) (hc : vwCl[c]? = some (C, Tt, N)) (hin : ∀ w ∈ u_ws C Tt N, w ∈ qW) (hj : j < N) (hl : Cond.fieldLink own n (Tt j).1 (Tt j).2.1 (Tt j).2.2.1 ∈ qW) (hk : qk c j = 1) (hdg : decode cc i = .ok (.getfield n, 3)) : OP1 k T pR pL env d i (i + 3) 0 0 (xgl c j) := fun r st mm a b _ _ _ h => by
  obtain ⟨q, rfl, hq, h⟩ := qwp_xo h
  exact g_get X hc hin hj hl hdg hq (by unfold qfv; rw [if_neg (by rw [hk]; decide), if_pos hk]) h
theorem O_gr {c j n : Nat} {C : String} {Tt : u_T} {N : Nat} (X : CX k cc own) (hc : vwCl[c]? = some (C, Tt, N)) (hin : ∀ w ∈ u_ws C Tt N, w ∈ qW) (hj : j < N) (hl : Cond.fieldLink own n (Tt j).1 (Tt j).2.1 (Tt j).2.2.1 ∈ qW) (hk : qk c j = 2) (hdg : decode cc i = .ok (.getfield n, 3)) : OP1 k T pR pR env d i (i + 3) 0 0 (xgr c j) := fun r st mm a b _ _ _ h => by
  obtain ⟨q, rfl, hq, h⟩ := qwp_xo h
  exact g_get X hc hin hj hl hdg hq (by unfold qfv; rw [if_neg (by rw [hk]; decide), if_neg (by rw [hk]; decide)]) h
theorem va_up2 {α : Type} (F : Nat → Nat → α) (f q : Nat) (x : α) (g p : Nat) (h : p ≠ q) : va_up F f (va_up (F f) q x) g p = F g p := by
  by_cases e : g = f
  · subst e; simp [va_up, h]
  · simp [va_up, e]
theorem q_fid {c j j' : Nat} (h : ¬ j' = j) : ¬ 64 * c + j' = 64 * c + j := fun e => h (Nat.add_left_cancel e)
theorem HR.putFi {D : va_G} {DA : Nat → ClassId} {Hs : Heap} {m : QM} {H H' : Heap} {q f : Nat} {x : Int32} (hR : HR D DA Hs m H) (hq : (qty m q).1 ≠ 0) (z : H'.size = H.size) (o : ∀ p : Nat, p ≠ q → H'[p]? = H[p]?) (hc : qcell D DA (sfi m f q x) q H') : HR D DA Hs (sfi m f q x) H' := by
  refine hR.put hq z o rfl (fun _ => rfl) (fun g p hp => va_up2 _ _ _ _ g p hp) (fun _ _ _ => rfl) (fun _ _ _ => rfl) (fun _ _ => rfl) (fun _ _ => rfl) (fun _ _ => rfl) hc
theorem q_fvi {m : QM} {c q j N : Nat} {x : Int32} (hk : qk c j = 0) : ∀ i, i < N → updV (qfv m c q) j (.int x) i = qfv (sfi m (64 * c + j) q x) c q i := by
  intro i _
  by_cases e : i = j
  · subst e
    simp [updV, qfv, hk, sfi, qfi, va_up]
  · simp [updV, qfv, e, qfi, qfl, qfr, sfi, va_up]
theorem HR.putFl {D : va_G} {DA : Nat → ClassId} {Hs : Heap} {m : QM} {H H' : Heap} {q f : Nat} {x : Int64} (hR : HR D DA Hs m H) (hq : (qty m q).1 ≠ 0) (z : H'.size = H.size) (o : ∀ p : Nat, p ≠ q → H'[p]? = H[p]?) (hc : qcell D DA (sfl m f q x) q H') : HR D DA Hs (sfl m f q x) H' := by
  refine hR.put hq z o rfl (fun _ => rfl) (fun _ _ _ => rfl) (fun g p hp => va_up2 _ _ _ _ g p hp) (fun _ _ _ => rfl) (fun _ _ => rfl) (fun _ _ => rfl) (fun _ _ => rfl) hc
theorem q_fvl {m : QM} {c q j N : Nat} {x : Int64} (hk : qk c j = 1) : ∀ i, i < N → updV (qfv m c q) j (.long x) i = qfv (sfl m (64 * c + j) q x) c q i := by
  intro i _
  by_cases e : i = j
  · subst e
    simp [updV, qfv, hk, sfl, qfl, va_up]
  · simp [updV, qfv, e, qfi, qfl, qfr, sfl, va_up]
theorem HR.putFr {D : va_G} {DA : Nat → ClassId} {Hs : Heap} {m : QM} {H H' : Heap} {q f : Nat} {x : Option Nat} (hR : HR D DA Hs m H) (hq : (qty m q).1 ≠ 0) (z : H'.size = H.size) (o : ∀ p : Nat, p ≠ q → H'[p]? = H[p]?) (hc : qcell D DA (sfr m f q x) q H') : HR D DA Hs (sfr m f q x) H' := by
  refine hR.put hq z o rfl (fun _ => rfl) (fun _ _ _ => rfl) (fun _ _ _ => rfl) (fun g p hp => va_up2 _ _ _ _ g p hp) (fun _ _ => rfl) (fun _ _ => rfl) (fun _ _ => rfl) hc
theorem q_fvr {m : QM} {c q j N : Nat} {x : Option Nat} (hk : qk c j = 2) : ∀ i, i < N → updV (qfv m c q) j (va_rf x) i = qfv (sfr m (64 * c + j) q x) c q i := by
  intro i _
  by_cases e : i = j
  · subst e
    simp [updV, qfv, hk, sfr, qfr, va_up]
  · simp [updV, qfv, e, qfi, qfl, qfr, sfr, va_up]
theorem O_si {c j n : Nat} {C : String} {Tt : u_T} {N : Nat} (ty0 : Nat → FieldType) (X : CX k cc own) (hc : vwCl[c]? = some (C, Tt, N)) (hin : ∀ w ∈ u_ws C Tt N, w ∈ qW) (hty : ∀ k, k < N → parseFieldDescriptor (Tt k).2.2.1 = some (ty0 k)) (hnm : ∀ a, a < N → ∀ b, b < N → a ≠ b → (Tt a).2.1 ≠ (Tt b).2.1) (hj : j < N) (hl : Cond.fieldLink own n (Tt j).1 (Tt j).2.1 (Tt j).2.2.1 ∈ qW)
    (hfin : (Tt j).2.2.2 = false ∨ ((kmeth k).name = "<init>" ∧ (Tt j).2.2.2 = true ∧ (Tt j).1 = own)) (hk : qk c j = 0) (hd : parseFieldDescriptor (Tt j).2.2.1 = some .int) (hdg : decode cc i = .ok (.putfield n, 3)) : OP2 k T pR pI pU env d i (i + 3) 0 0 (xsi c j) := fun r x st mm a b _ _ _ h => by
  obtain ⟨q, rfl, hq, h⟩ := qwp_xo h
  exact g_put (v := .int x) (mm' := sfi mm (64 * c + j) q x) ty0 X hc hin hty hnm hj hl hfin hd rfl rfl hdg hq (fun H H' hR z o hcell => hR.putFi (by rw [hq]; exact Nat.one_ne_zero) z o hcell) hq (q_fvi hk) h
theorem O_sz {c j n : Nat} {C : String} {Tt : u_T} {N : Nat} (ty0 : Nat → FieldType) (X : CX k cc own) (hc : vwCl[c]? = some (C, Tt, N)) (hin : ∀ w ∈ u_ws C Tt N, w ∈ qW) (hty : ∀ k, k < N → parseFieldDescriptor (Tt k).2.2.1 = some (ty0 k)) (hnm : ∀ a, a < N → ∀ b, b < N → a ≠ b → (Tt a).2.1 ≠ (Tt b).2.1) (hj : j < N) (hl : Cond.fieldLink own n (Tt j).1 (Tt j).2.1 (Tt j).2.2.1 ∈ qW)
    (hfin : (Tt j).2.2.2 = false ∨ ((kmeth k).name = "<init>" ∧ (Tt j).2.2.2 = true ∧ (Tt j).1 = own)) (hk : qk c j = 0) (hd : parseFieldDescriptor (Tt j).2.2.1 = some .boolean) (hdg : decode cc i = .ok (.putfield n, 3)) : OP2 k T pR pI pU env d i (i + 3) 0 0 (xsz c j) := fun r x st mm a b _ _ _ h => by
  obtain ⟨q, rfl, hq, h⟩ := qwp_xo h
  have h' := qwp_ite (p := x = 0 ∨ x = 1) (f := fun m => some (.ok (), sfi m (64 * c + j) q x)) h
  obtain ⟨hx, h⟩ := h'
  exact g_put (v := .int x) (mm' := sfi mm (64 * c + j) q x) ty0 X hc hin hty hnm hj hl hfin hd (by rcases hx with rfl | rfl <;> rfl) (by rcases hx with rfl | rfl <;> rfl) hdg hq (fun H H' hR z o hcell => hR.putFi (by rw [hq]; exact Nat.one_ne_zero) z o hcell) hq (q_fvi hk) h
theorem O_sl {c j n : Nat} {C : String} {Tt : u_T} {N : Nat} (ty0 : Nat → FieldType) (X : CX k cc own) (hc : vwCl[c]? = some (C, Tt, N)) (hin : ∀ w ∈ u_ws C Tt N, w ∈ qW) (hty : ∀ k, k < N → parseFieldDescriptor (Tt k).2.2.1 = some (ty0 k)) (hnm : ∀ a, a < N → ∀ b, b < N → a ≠ b → (Tt a).2.1 ≠ (Tt b).2.1) (hj : j < N) (hl : Cond.fieldLink own n (Tt j).1 (Tt j).2.1 (Tt j).2.2.1 ∈ qW)
    (hfin : (Tt j).2.2.2 = false ∨ ((kmeth k).name = "<init>" ∧ (Tt j).2.2.2 = true ∧ (Tt j).1 = own)) (hk : qk c j = 1) (hd : parseFieldDescriptor (Tt j).2.2.1 = some .long) (hdg : decode cc i = .ok (.putfield n, 3)) : OP2 k T pR pL pU env d i (i + 3) 0 0 (xsl c j) := fun r x st mm a b _ _ _ h => by
  obtain ⟨q, rfl, hq, h⟩ := qwp_xo h
  exact g_put (v := .long x) (mm' := sfl mm (64 * c + j) q x) ty0 X hc hin hty hnm hj hl hfin hd rfl rfl hdg hq (fun H H' hR z o hcell => hR.putFl (by rw [hq]; exact Nat.one_ne_zero) z o hcell) hq (q_fvl hk) h
theorem O_sr {c j n : Nat} {C : String} {Tt : u_T} {N : Nat} (ty0 : Nat → FieldType) (X : CX k cc own) (hc : vwCl[c]? = some (C, Tt, N)) (hin : ∀ w ∈ u_ws C Tt N, w ∈ qW) (hty : ∀ k, k < N → parseFieldDescriptor (Tt k).2.2.1 = some (ty0 k)) (hnm : ∀ a, a < N → ∀ b, b < N → a ≠ b → (Tt a).2.1 ≠ (Tt b).2.1) (hj : j < N) (hl : Cond.fieldLink own n (Tt j).1 (Tt j).2.1 (Tt j).2.2.1 ∈ qW)
    (hfin : (Tt j).2.2.2 = false ∨ ((kmeth k).name = "<init>" ∧ (Tt j).2.2.2 = true ∧ (Tt j).1 = own)) (hk : qk c j = 2) {rt : FieldType} (hd : parseFieldDescriptor (Tt j).2.2.1 = some rt) (hrt : (∃ n, rt = .object n) ∨ ∃ t, rt = .array t) (hdg : decode cc i = .ok (.putfield n, 3)) : OP2 k T pR pR pU env d i (i + 3) 0 0 (xsr c j) := fun r x st mm a b _ _ _ h => by
  obtain ⟨q, rfl, hq, h⟩ := qwp_xo h
  exact g_put (v := va_rf x) (mm' := sfr mm (64 * c + j) q x) ty0 X hc hin hty hnm hj hl hfin hd (by rcases hrt with ⟨n, rfl⟩ | ⟨t, rfl⟩ <;> cases x <;> rfl) (by rcases hrt with ⟨n, rfl⟩ | ⟨t, rfl⟩ <;> cases x <;> rfl) hdg hq (fun H H' hR z o hcell => hR.putFr (by rw [hq]; exact Nat.one_ne_zero) z o hcell) hq (q_fvr hk) h
/- arrays -/
theorem O_ai (X : CX k cc own) (hdg : decode cc i = .ok (.iaload, 1)) : OP2 k T pR pI pI env d i (i + 1) 0 0 (xai 0) := fun r n st mm a b _ _ _ h => by
  obtain ⟨q, N, rfl, hq, hin, h⟩ := qwp_xat h
  exact g_iald X hq hin hdg h
theorem O_ab (X : CX k cc own) (hdg : decode cc i = .ok (.baload, 1)) : OP2 k T pR pI pI env d i (i + 1) 0 0 (xai 2) := fun r n st mm a b _ _ _ h => by
  obtain ⟨q, N, rfl, hq, hin, h⟩ := qwp_xat h
  exact g_bald X hq hin hdg h
theorem O_ar {c : Nat} {C : String} (X : CX k cc own) (hc : 4 + c ∈ qats) (hC : qaty (4 + c) = .object C) (hdg : decode cc i = .ok (.aaload, 1)) : OP2 k T pR pI pR env d i (i + 1) 0 0 (xar c) := fun r n st mm a b _ _ _ h => by
  obtain ⟨q, N, rfl, hq, hin, h⟩ := qwp_xat h
  exact g_aald X hq hc hC hin hdg h
theorem O_len (X : CX k cc own) (hdg : decode cc i = .ok (.arraylength, 1)) : OP1 k T pR pI env d i (i + 1) 0 0 xlen := fun r st mm a b _ _ _ h => by
  cases r with
  | none => exact h.elim
  | some q =>
    by_cases hq : (qty mm q).1 = 2 ∧ ((qty mm q).2.1 = 0 ∨ (qty mm q).2.1 = 2) ∨ (qty mm q).1 = 4 ∧ 4 + (qty mm q).2.1 ∈ qats
    · have e : xlen (some q) mm = some (.ok (Int32.ofNat (qty mm q).2.2), mm) := by show (if _ then _ else none) = _; rw [if_pos hq]
      unfold qwp at h
      rw [e] at h
      exact g_alen X (t := (qty mm q).1) (u := (qty mm q).2.1) (n := (qty mm q).2.2) rfl hq hdg h
    · have e : xlen (some q) mm = none := by show (if _ then _ else none) = _; rw [if_neg hq]
      unfold qwp at h
      rw [e] at h; exact h.elim
theorem O_sai (X : CX k cc own) (hdg : decode cc i = .ok (.iastore, 1)) : OP3 k T pR pI pI pU env d i (i + 1) 0 0 xsai := fun r n x st mm a b _ _ _ h => by
  obtain ⟨q, N, rfl, hq, hin, h⟩ := qwp_xat h
  exact g_iast X hq hin hdg h
theorem O_sab (X : CX k cc own) (hdg : decode cc i = .ok (.bastore, 1)) : OP3 k T pR pI pI pU env d i (i + 1) 0 0 xsab := fun r n x st mm a b _ _ _ h => by
  obtain ⟨q, N, rfl, hq, hin, h⟩ := qwp_xat h
  have h' := qwp_ite (p := x.toInt8.toInt32 = x) (f := fun m => some (.ok (), sai m q n.toNatClampNeg x)) h
  exact g_bast X hq h'.1 hin hdg h'.2
theorem O_sar {c : Nat} {C : String} {Tt : u_T} {N0 : Nat} (X : CX k cc own) (hcl : vwCl[c]? = some (C, Tt, N0)) (hc : 4 + c ∈ qats) (hC : qaty (4 + c) = .object C) (hdg : decode cc i = .ok (.aastore, 1)) : OP3 k T pR pI pR pU env d i (i + 1) 0 0 (xsar c) := fun r n x st mm a b _ _ _ h => by
  obtain ⟨q, N, rfl, hq, hin, h⟩ := qwp_xat h
  cases x with
  | none => exact g_aastN X hq hc hC hin hdg h
  | some v =>
    by_cases hv : qty mm v = (1, c, 0)
    · unfold qwp at h
      simp only [if_pos hv] at h
      exact g_aast X hcl hq hc hC hv hin hdg h
    · unfold qwp at h
      simp only [if_neg hv] at h
theorem O_newi {t : Nat} {at' : ArrayType} {n : Int32} {cap : Nat} : True := trivial
theorem O_newi0 {cap : Nat} (X : CX k cc own) (hw : Cond.arrayClass .int ∈ qW) (hcap : cap ≤ 100000) (hdg : decode cc i = .ok (.newarray .int, 2)) : OP1 k T pI pR env d i (i + 2) 1 cap (fun n => xnewi 0 n cap) := fun n st mm a b _ hc hs h => by
  by_cases hn : 0 ≤ n.toInt ∧ n.toInt ≤ cap
  · unfold qwp xnewi at h
    simp only [if_pos hn] at h
    exact g_newi0 cap X hw hn hcap hc hs hdg h
  · unfold qwp xnewi at h
    simp only [if_neg hn] at h
theorem O_newi2 {cap : Nat} (X : CX k cc own) (hw : Cond.arrayClass .byte ∈ qW) (hcap : cap ≤ 100000) (hdg : decode cc i = .ok (.newarray .byte, 2)) : OP1 k T pI pR env d i (i + 2) 1 cap (fun n => xnewi 2 n cap) := fun n st mm a b _ hc hs h => by
  by_cases hn : 0 ≤ n.toInt ∧ n.toInt ≤ cap
  · unfold qwp xnewi at h
    simp only [if_pos hn] at h
    exact g_newi2 cap X hw hn hcap hc hs hdg h
  · unfold qwp xnewi at h
    simp only [if_neg hn] at h
theorem O_newr {cap c n0 : Nat} {C : String} (X : CX k cc own) (hcl : Cond.classLink own n0 C ∈ qW) (hw : Cond.arrayOver (.object C) ∈ qN) (hc0 : 4 + c ∈ qats) (hC : qaty (4 + c) = .object C) (hcap : cap ≤ 100000) (hdg : decode cc i = .ok (.anewarray n0, 3)) : OP1 k T pI pR env d i (i + 3) 1 cap (fun n => xnewr c n cap) := fun n st mm a b _ hc hs h => by
  by_cases hn : 0 ≤ n.toInt ∧ n.toInt ≤ cap
  · unfold qwp xnewr at h
    simp only [if_pos hn] at h
    exact g_newr cap X hcl hw hc0 hC hn hcap hc hs hdg h
  · unfold qwp xnewr at h
    simp only [if_neg hn] at h
/- calls on a receiver -/
theorem g_callVo {α : Type} {enc : α → Option Value} {F : Nat → QX α} {r : Option Nat} {st : List Value} {mm : QM} {pc a b : Nat} {y : MethodName} {c2 : ByteArray} {maxL fr lo mc ms n i cI : Nat} {C : String} {Tt : u_T} {N : Nat} {ret : Option FieldType} {av : List Value} (X : CX k cc own) (hT : TH k T) (htr : (kl k).stackTraces = false) (hcl : vwCl[cI]? = some (C, Tt, N)) (M : ∀ q, MM y c2 maxL ret fr lo mc ms enc (.ref q :: av) (F q)) (L : LK y c2 maxL ret n) (hin : Cond.instanceMethod y ∈ qW) (hse : Cond.selects C y y ∈ qW) (hl : Cond.methodLink own i y ∈ qW) (hn : av.length = n)
    (hroom : fr + 1 ≤ (kR k).frames ∧ 8 + (maxL + 11) + lo ≤ (kR k).locals) (hst : scat st ≤ 8) (hf : a + mc ≤ (kR k).cells ∧ b + ms ≤ (kR k).slots) (hdg : decode cc pc = .ok (.invokevirtual i, 3)) (h : qwp (xo cI r F) (fun v m' => GG k env ((enc v).toList ++ st) m' (pc + 3) (a + mc) (b + ms)) T mm) : GG k env (av.reverse ++ (va_rf r :: st)) mm pc a b := by
  obtain ⟨q, rfl, hq, h⟩ := qwp_xo h
  exact g_callV X hT htr hcl hq (M q) L hin hse hl hn hroom hst hf hdg h
theorem g_callIo {α : Type} {enc : α → Option Value} {F : Nat → QX α} {r : Option Nat} {st : List Value} {mm : QM} {pc a b : Nat} {y : MethodName} {c2 : ByteArray} {maxL fr lo mc ms n i cI : Nat} {av : List Value} (X : CX k cc own) (hT : TH k T) (htr : (kl k).stackTraces = false) (M : ∀ q, MM y c2 maxL none fr lo mc ms enc (.ref q :: av) (F q)) (L : LK y c2 maxL none n) (hin : Cond.instanceMethod y ∈ qW) (hy : y.name = "<init>") (hl : Cond.methodLink own i y ∈ qW) (hn : av.length = n)
    (hroom : fr + 1 ≤ (kR k).frames ∧ 8 + (maxL + 11) + lo ≤ (kR k).locals) (hst : scat st ≤ 8) (hf : a + mc ≤ (kR k).cells ∧ b + ms ≤ (kR k).slots) (hdg : decode cc pc = .ok (.invokespecial i, 3)) (h : qwp (xo cI r F) (fun v m' => GG k env ((enc v).toList ++ st) m' (pc + 3) (a + mc) (b + ms)) T mm) : GG k env (av.reverse ++ (va_rf r :: st)) mm pc a b := by
  obtain ⟨q, rfl, hq, h⟩ := qwp_xo h
  exact g_callI X hT htr (M q) L hin hy hl hn hroom hst hf hdg h
theorem g_callINo {α : Type} {enc : α → Option Value} {F : Nat → QX α} {r : Option Nat} {st : List Value} {mm : QM} {pc a b : Nat} {y : MethodName} {c2 : ByteArray} {host : String} {maxL fr lo mc ms n i cI : Nat} {av : List Value} (X : CX k cc own) (hT : TH k T) (htr : (kl k).stackTraces = false) (M : ∀ q, MM y c2 maxL none fr lo mc ms enc (.ref q :: av) (F q)) (L : LK y c2 maxL none n) (hin : Cond.instanceMethod y ∈ qW) (hy : y.name = "<init>") (hl : Cond.methodLinkNest own i y host ∈ qN) (hn : av.length = n)
    (hroom : fr + 1 ≤ (kR k).frames ∧ 8 + (maxL + 11) + lo ≤ (kR k).locals) (hst : scat st ≤ 8) (hf : a + mc ≤ (kR k).cells ∧ b + ms ≤ (kR k).slots) (hdg : decode cc pc = .ok (.invokespecial i, 3)) (h : qwp (xo cI r F) (fun v m' => GG k env ((enc v).toList ++ st) m' (pc + 3) (a + mc) (b + ms)) T mm) : GG k env (av.reverse ++ (va_rf r :: st)) mm pc a b := by
  obtain ⟨q, rfl, hq, h⟩ := qwp_xo h
  exact g_callIN X hT htr (M q) L hin hy hl hn hroom hst hf hdg h
/- conditions' leaves: T jumps where it holds, F where not -/
theorem q_nlt {v w : Int32} : (w ≤ v) ↔ ¬ v < w := by rw [Int32.le_iff_toInt_le, Int32.lt_iff_toInt_lt]; omega
theorem q_nle {v w : Int32} : (w < v) ↔ ¬ v ≤ w := by rw [Int32.le_iff_toInt_le, Int32.lt_iff_toInt_lt]; omega
theorem C_lt_T {off : Int} {tgt : Nat} (X : CX k cc own) (hdg : decode cc i = .ok (.if_icmp .lt off, 3)) (ht : (i : Int) + off = (tgt : Int)) : ∀ (v w : Int32) (st : List Value) (mm : QM) (a b : Nat), GG k env st mm (if decide (v < w) = true then tgt else i + 3) a b → GG k env (pI w ++ (pI v ++ st)) mm i a b := fun v w st mm a b h => g_icmp_lt X hdg ht (by simp only [decide_eq_true_eq] at h; exact h)
theorem C_lt_F {off : Int} {tgt : Nat} (X : CX k cc own) (hdg : decode cc i = .ok (.if_icmp .ge off, 3)) (ht : (i : Int) + off = (tgt : Int)) : ∀ (v w : Int32) (st : List Value) (mm : QM) (a b : Nat), GG k env st mm (if decide (v < w) = true then i + 3 else tgt) a b → GG k env (pI w ++ (pI v ++ st)) mm i a b := fun v w st mm a b h => g_icmp_ge X hdg ht (by simp only [decide_eq_true_eq] at h; simp only [q_nlt, ite_not]; exact h)
theorem C_le_T {off : Int} {tgt : Nat} (X : CX k cc own) (hdg : decode cc i = .ok (.if_icmp .le off, 3)) (ht : (i : Int) + off = (tgt : Int)) : ∀ (v w : Int32) (st : List Value) (mm : QM) (a b : Nat), GG k env st mm (if decide (v ≤ w) = true then tgt else i + 3) a b → GG k env (pI w ++ (pI v ++ st)) mm i a b := fun v w st mm a b h => g_icmp_le X hdg ht (by simp only [decide_eq_true_eq] at h; exact h)
theorem C_le_F {off : Int} {tgt : Nat} (X : CX k cc own) (hdg : decode cc i = .ok (.if_icmp .gt off, 3)) (ht : (i : Int) + off = (tgt : Int)) : ∀ (v w : Int32) (st : List Value) (mm : QM) (a b : Nat), GG k env st mm (if decide (v ≤ w) = true then i + 3 else tgt) a b → GG k env (pI w ++ (pI v ++ st)) mm i a b := fun v w st mm a b h => g_icmp_gt X hdg ht (by simp only [decide_eq_true_eq] at h; simp only [q_nle, ite_not]; exact h)
theorem C_gt_T {off : Int} {tgt : Nat} (X : CX k cc own) (hdg : decode cc i = .ok (.if_icmp .gt off, 3)) (ht : (i : Int) + off = (tgt : Int)) : ∀ (v w : Int32) (st : List Value) (mm : QM) (a b : Nat), GG k env st mm (if decide (w < v) = true then tgt else i + 3) a b → GG k env (pI w ++ (pI v ++ st)) mm i a b := fun v w st mm a b h => g_icmp_gt X hdg ht (by simp only [decide_eq_true_eq] at h; exact h)
theorem C_gt_F {off : Int} {tgt : Nat} (X : CX k cc own) (hdg : decode cc i = .ok (.if_icmp .le off, 3)) (ht : (i : Int) + off = (tgt : Int)) : ∀ (v w : Int32) (st : List Value) (mm : QM) (a b : Nat), GG k env st mm (if decide (w < v) = true then i + 3 else tgt) a b → GG k env (pI w ++ (pI v ++ st)) mm i a b := fun v w st mm a b h => g_icmp_le X hdg ht (by simp only [decide_eq_true_eq] at h; simp only [q_nlt, ite_not]; exact h)
theorem C_ge_T {off : Int} {tgt : Nat} (X : CX k cc own) (hdg : decode cc i = .ok (.if_icmp .ge off, 3)) (ht : (i : Int) + off = (tgt : Int)) : ∀ (v w : Int32) (st : List Value) (mm : QM) (a b : Nat), GG k env st mm (if decide (w ≤ v) = true then tgt else i + 3) a b → GG k env (pI w ++ (pI v ++ st)) mm i a b := fun v w st mm a b h => g_icmp_ge X hdg ht (by simp only [decide_eq_true_eq] at h; exact h)
theorem C_ge_F {off : Int} {tgt : Nat} (X : CX k cc own) (hdg : decode cc i = .ok (.if_icmp .lt off, 3)) (ht : (i : Int) + off = (tgt : Int)) : ∀ (v w : Int32) (st : List Value) (mm : QM) (a b : Nat), GG k env st mm (if decide (w ≤ v) = true then i + 3 else tgt) a b → GG k env (pI w ++ (pI v ++ st)) mm i a b := fun v w st mm a b h => g_icmp_lt X hdg ht (by simp only [decide_eq_true_eq] at h; simp only [q_nle, ite_not]; exact h)
theorem C_eq_T {off : Int} {tgt : Nat} (X : CX k cc own) (hdg : decode cc i = .ok (.if_icmp .eq off, 3)) (ht : (i : Int) + off = (tgt : Int)) : ∀ (v w : Int32) (st : List Value) (mm : QM) (a b : Nat), GG k env st mm (if decide (v = w) = true then tgt else i + 3) a b → GG k env (pI w ++ (pI v ++ st)) mm i a b := fun v w st mm a b h => g_icmp_eq X hdg ht (by simp only [decide_eq_true_eq] at h; exact h)
theorem C_eq_F {off : Int} {tgt : Nat} (X : CX k cc own) (hdg : decode cc i = .ok (.if_icmp .ne off, 3)) (ht : (i : Int) + off = (tgt : Int)) : ∀ (v w : Int32) (st : List Value) (mm : QM) (a b : Nat), GG k env st mm (if decide (v = w) = true then i + 3 else tgt) a b → GG k env (pI w ++ (pI v ++ st)) mm i a b := fun v w st mm a b h => g_icmp_ne X hdg ht (by simp only [decide_eq_true_eq] at h; simp only [ite_not]; exact h)
theorem C_ne_T {off : Int} {tgt : Nat} (X : CX k cc own) (hdg : decode cc i = .ok (.if_icmp .ne off, 3)) (ht : (i : Int) + off = (tgt : Int)) : ∀ (v w : Int32) (st : List Value) (mm : QM) (a b : Nat), GG k env st mm (if decide (¬ v = w) = true then tgt else i + 3) a b → GG k env (pI w ++ (pI v ++ st)) mm i a b := fun v w st mm a b h => g_icmp_ne X hdg ht (by simp only [decide_eq_true_eq] at h; exact h)
theorem C_ne_F {off : Int} {tgt : Nat} (X : CX k cc own) (hdg : decode cc i = .ok (.if_icmp .eq off, 3)) (ht : (i : Int) + off = (tgt : Int)) : ∀ (v w : Int32) (st : List Value) (mm : QM) (a b : Nat), GG k env st mm (if decide (¬ v = w) = true then i + 3 else tgt) a b → GG k env (pI w ++ (pI v ++ st)) mm i a b := fun v w st mm a b h => g_icmp_eq X hdg ht (by simp only [decide_eq_true_eq, ite_not] at h; exact h)
theorem Z_lt_T {off : Int} {tgt : Nat} (X : CX k cc own) (hdg : decode cc i = .ok (.ifCond .lt off, 3)) (ht : (i : Int) + off = (tgt : Int)) : ∀ (v : Int32) (st : List Value) (mm : QM) (a b : Nat), GG k env st mm (if decide (v < 0) = true then tgt else i + 3) a b → GG k env (pI v ++ st) mm i a b := fun v st mm a b h => g_if_lt X hdg ht (by simp only [decide_eq_true_eq] at h; exact h)
theorem Z_lt_F {off : Int} {tgt : Nat} (X : CX k cc own) (hdg : decode cc i = .ok (.ifCond .ge off, 3)) (ht : (i : Int) + off = (tgt : Int)) : ∀ (v : Int32) (st : List Value) (mm : QM) (a b : Nat), GG k env st mm (if decide (v < 0) = true then i + 3 else tgt) a b → GG k env (pI v ++ st) mm i a b := fun v st mm a b h => g_if_ge X hdg ht (by simp only [decide_eq_true_eq] at h; simp only [q_nlt, ite_not]; exact h)
theorem Z_le_T {off : Int} {tgt : Nat} (X : CX k cc own) (hdg : decode cc i = .ok (.ifCond .le off, 3)) (ht : (i : Int) + off = (tgt : Int)) : ∀ (v : Int32) (st : List Value) (mm : QM) (a b : Nat), GG k env st mm (if decide (v ≤ 0) = true then tgt else i + 3) a b → GG k env (pI v ++ st) mm i a b := fun v st mm a b h => g_if_le X hdg ht (by simp only [decide_eq_true_eq] at h; exact h)
theorem Z_le_F {off : Int} {tgt : Nat} (X : CX k cc own) (hdg : decode cc i = .ok (.ifCond .gt off, 3)) (ht : (i : Int) + off = (tgt : Int)) : ∀ (v : Int32) (st : List Value) (mm : QM) (a b : Nat), GG k env st mm (if decide (v ≤ 0) = true then i + 3 else tgt) a b → GG k env (pI v ++ st) mm i a b := fun v st mm a b h => g_if_gt X hdg ht (by simp only [decide_eq_true_eq] at h; simp only [q_nle, ite_not]; exact h)
theorem Z_gt_T {off : Int} {tgt : Nat} (X : CX k cc own) (hdg : decode cc i = .ok (.ifCond .gt off, 3)) (ht : (i : Int) + off = (tgt : Int)) : ∀ (v : Int32) (st : List Value) (mm : QM) (a b : Nat), GG k env st mm (if decide (0 < v) = true then tgt else i + 3) a b → GG k env (pI v ++ st) mm i a b := fun v st mm a b h => g_if_gt X hdg ht (by simp only [decide_eq_true_eq] at h; exact h)
theorem Z_gt_F {off : Int} {tgt : Nat} (X : CX k cc own) (hdg : decode cc i = .ok (.ifCond .le off, 3)) (ht : (i : Int) + off = (tgt : Int)) : ∀ (v : Int32) (st : List Value) (mm : QM) (a b : Nat), GG k env st mm (if decide (0 < v) = true then i + 3 else tgt) a b → GG k env (pI v ++ st) mm i a b := fun v st mm a b h => g_if_le X hdg ht (by simp only [decide_eq_true_eq] at h; simp only [q_nlt, ite_not]; exact h)
theorem Z_ge_T {off : Int} {tgt : Nat} (X : CX k cc own) (hdg : decode cc i = .ok (.ifCond .ge off, 3)) (ht : (i : Int) + off = (tgt : Int)) : ∀ (v : Int32) (st : List Value) (mm : QM) (a b : Nat), GG k env st mm (if decide (0 ≤ v) = true then tgt else i + 3) a b → GG k env (pI v ++ st) mm i a b := fun v st mm a b h => g_if_ge X hdg ht (by simp only [decide_eq_true_eq] at h; exact h)
theorem Z_ge_F {off : Int} {tgt : Nat} (X : CX k cc own) (hdg : decode cc i = .ok (.ifCond .lt off, 3)) (ht : (i : Int) + off = (tgt : Int)) : ∀ (v : Int32) (st : List Value) (mm : QM) (a b : Nat), GG k env st mm (if decide (0 ≤ v) = true then i + 3 else tgt) a b → GG k env (pI v ++ st) mm i a b := fun v st mm a b h => g_if_lt X hdg ht (by simp only [decide_eq_true_eq] at h; simp only [q_nle, ite_not]; exact h)
theorem Z_eq_T {off : Int} {tgt : Nat} (X : CX k cc own) (hdg : decode cc i = .ok (.ifCond .eq off, 3)) (ht : (i : Int) + off = (tgt : Int)) : ∀ (v : Int32) (st : List Value) (mm : QM) (a b : Nat), GG k env st mm (if decide (v = 0) = true then tgt else i + 3) a b → GG k env (pI v ++ st) mm i a b := fun v st mm a b h => g_if_eq X hdg ht (by simp only [decide_eq_true_eq] at h; exact h)
theorem Z_eq_F {off : Int} {tgt : Nat} (X : CX k cc own) (hdg : decode cc i = .ok (.ifCond .ne off, 3)) (ht : (i : Int) + off = (tgt : Int)) : ∀ (v : Int32) (st : List Value) (mm : QM) (a b : Nat), GG k env st mm (if decide (v = 0) = true then i + 3 else tgt) a b → GG k env (pI v ++ st) mm i a b := fun v st mm a b h => g_if_ne X hdg ht (by simp only [decide_eq_true_eq] at h; simp only [ite_not]; exact h)
theorem Z_ne_T {off : Int} {tgt : Nat} (X : CX k cc own) (hdg : decode cc i = .ok (.ifCond .ne off, 3)) (ht : (i : Int) + off = (tgt : Int)) : ∀ (v : Int32) (st : List Value) (mm : QM) (a b : Nat), GG k env st mm (if decide (¬ v = 0) = true then tgt else i + 3) a b → GG k env (pI v ++ st) mm i a b := fun v st mm a b h => g_if_ne X hdg ht (by simp only [decide_eq_true_eq] at h; exact h)
theorem Z_ne_F {off : Int} {tgt : Nat} (X : CX k cc own) (hdg : decode cc i = .ok (.ifCond .eq off, 3)) (ht : (i : Int) + off = (tgt : Int)) : ∀ (v : Int32) (st : List Value) (mm : QM) (a b : Nat), GG k env st mm (if decide (¬ v = 0) = true then i + 3 else tgt) a b → GG k env (pI v ++ st) mm i a b := fun v st mm a b h => g_if_eq X hdg ht (by simp only [decide_eq_true_eq, ite_not] at h; exact h)
theorem N_eq_T {off : Int} {tgt : Nat} (X : CX k cc own) (hdg : decode cc i = .ok (.ifnull off, 3)) (ht : (i : Int) + off = (tgt : Int)) : ∀ (v : Option Nat) (st : List Value) (mm : QM) (a b : Nat), GG k env st mm (if decide (v = none) = true then tgt else i + 3) a b → GG k env (pR v ++ st) mm i a b := fun v st mm a b h => g_ifnull X hdg ht (by simp only [decide_eq_true_eq] at h; exact h)
theorem N_eq_F {off : Int} {tgt : Nat} (X : CX k cc own) (hdg : decode cc i = .ok (.ifnonnull off, 3)) (ht : (i : Int) + off = (tgt : Int)) : ∀ (v : Option Nat) (st : List Value) (mm : QM) (a b : Nat), GG k env st mm (if decide (v = none) = true then i + 3 else tgt) a b → GG k env (pR v ++ st) mm i a b := fun v st mm a b h => g_ifnonnull X hdg ht (by simp only [decide_eq_true_eq] at h; exact h)
theorem N_ne_T {off : Int} {tgt : Nat} (X : CX k cc own) (hdg : decode cc i = .ok (.ifnonnull off, 3)) (ht : (i : Int) + off = (tgt : Int)) : ∀ (v : Option Nat) (st : List Value) (mm : QM) (a b : Nat), GG k env st mm (if decide (¬ v = none) = true then tgt else i + 3) a b → GG k env (pR v ++ st) mm i a b := fun v st mm a b h => g_ifnonnull X hdg ht (by simp only [decide_eq_true_eq, ite_not] at h; exact h)
theorem N_ne_F {off : Int} {tgt : Nat} (X : CX k cc own) (hdg : decode cc i = .ok (.ifnull off, 3)) (ht : (i : Int) + off = (tgt : Int)) : ∀ (v : Option Nat) (st : List Value) (mm : QM) (a b : Nat), GG k env st mm (if decide (¬ v = none) = true then i + 3 else tgt) a b → GG k env (pR v ++ st) mm i a b := fun v st mm a b h => g_ifnull X hdg ht (by simp only [decide_eq_true_eq, ite_not] at h; exact h)
theorem A_eq_T {off : Int} {tgt : Nat} (X : CX k cc own) (hdg : decode cc i = .ok (.if_acmp .eq off, 3)) (ht : (i : Int) + off = (tgt : Int)) : ∀ (v w : Option Nat) (st : List Value) (mm : QM) (a b : Nat), GG k env st mm (if decide (v = w) = true then tgt else i + 3) a b → GG k env (pR w ++ (pR v ++ st)) mm i a b := fun v w st mm a b h => g_acmp_eq X hdg ht (by simp only [decide_eq_true_eq] at h; exact h)
theorem A_eq_F {off : Int} {tgt : Nat} (X : CX k cc own) (hdg : decode cc i = .ok (.if_acmp .ne off, 3)) (ht : (i : Int) + off = (tgt : Int)) : ∀ (v w : Option Nat) (st : List Value) (mm : QM) (a b : Nat), GG k env st mm (if decide (v = w) = true then i + 3 else tgt) a b → GG k env (pR w ++ (pR v ++ st)) mm i a b := fun v w st mm a b h => g_acmp_ne X hdg ht (by simp only [decide_eq_true_eq] at h; simp only [ite_not]; exact h)
theorem q_cmp0 {x y : Int64} : lg_cmp x y = 0 ↔ x = y := by
  unfold lg_cmp
  constructor
  · intro h
    by_cases h1 : y < x
    · simp [h1] at h
    · simp [h1] at h
      exact h
  · rintro rfl
    simp [Int64.lt_iff_toInt_lt]
theorem J_eq_T {off : Int} {tgt : Nat} (X : CX k cc own) (d0 : decode cc i = .ok (.lcmp, 1)) (hdg : decode cc (i + 1) = .ok (.ifCond .eq off, 3)) (ht : ((i + 1 : Nat) : Int) + off = (tgt : Int)) : ∀ (v w : Int64) (st : List Value) (mm : QM) (a b : Nat), GG k env st mm (if decide (v = w) = true then tgt else i + 1 + 3) a b → GG k env (pL w ++ (pL v ++ st)) mm i a b := fun v w st mm a b h => g_lcmp X d0 (g_if_eq X hdg ht (by simp only [decide_eq_true_eq] at h; simp only [q_cmp0]; exact h))
theorem J_eq_F {off : Int} {tgt : Nat} (X : CX k cc own) (d0 : decode cc i = .ok (.lcmp, 1)) (hdg : decode cc (i + 1) = .ok (.ifCond .ne off, 3)) (ht : ((i + 1 : Nat) : Int) + off = (tgt : Int)) : ∀ (v w : Int64) (st : List Value) (mm : QM) (a b : Nat), GG k env st mm (if decide (v = w) = true then i + 1 + 3 else tgt) a b → GG k env (pL w ++ (pL v ++ st)) mm i a b := fun v w st mm a b h => g_lcmp X d0 (g_if_ne X hdg ht (by simp only [decide_eq_true_eq] at h; simp only [q_cmp0, ite_not]; exact h))
theorem J_ne_T {off : Int} {tgt : Nat} (X : CX k cc own) (d0 : decode cc i = .ok (.lcmp, 1)) (hdg : decode cc (i + 1) = .ok (.ifCond .ne off, 3)) (ht : ((i + 1 : Nat) : Int) + off = (tgt : Int)) : ∀ (v w : Int64) (st : List Value) (mm : QM) (a b : Nat), GG k env st mm (if decide (¬ v = w) = true then tgt else i + 1 + 3) a b → GG k env (pL w ++ (pL v ++ st)) mm i a b := fun v w st mm a b h => g_lcmp X d0 (g_if_ne X hdg ht (by simp only [decide_eq_true_eq, ite_not] at h; simp only [q_cmp0, ite_not]; exact h))
theorem J_ne_F {off : Int} {tgt : Nat} (X : CX k cc own) (d0 : decode cc i = .ok (.lcmp, 1)) (hdg : decode cc (i + 1) = .ok (.ifCond .eq off, 3)) (ht : ((i + 1 : Nat) : Int) + off = (tgt : Int)) : ∀ (v w : Int64) (st : List Value) (mm : QM) (a b : Nat), GG k env st mm (if decide (¬ v = w) = true then i + 1 + 3 else tgt) a b → GG k env (pL w ++ (pL v ++ st)) mm i a b := fun v w st mm a b h => g_lcmp X d0 (g_if_eq X hdg ht (by simp only [decide_eq_true_eq, ite_not] at h; simp only [q_cmp0]; exact h))
/- the ends -/
theorem narrow_z {v : Int32} (h : v = 0 ∨ v = 1) : narrow .boolean (.int v) = .int v := by rcases h with rfl | rfl <;> rfl
theorem SB_retI {res : Except Nat Int32 × QM} {x : QX Int32} {i0 c s : Nat} (X : CX k cc own) (C : CQ k encI res) (hr : (kmeth k).sig.returnType = some .int) (hdg : decode cc i = .ok (.ireturn, 1)) (he : XE k T pI env 0 i0 i c s x) : SB k T (fun v m' => res = (.ok v, m')) env i0 c s x := SB_ret he fun v mm a b ha hb h => g_iret X C hr rfl hdg ha hb h
theorem SB_retZ {res : Except Nat Int32 × QM} {x : QX Int32} {i0 c s : Nat} (X : CX k cc own) (C : CQ k encI res) (hr : (kmeth k).sig.returnType = some .boolean) (hdg : decode cc i = .ok (.ireturn, 1)) (he : XE k T pI env 0 i0 i c s x) : SB k T (fun v m' => res = (.ok v, m')) env i0 c s (xb x xz) := by
  intro mm a b hc hs h
  refine he [] mm a b (Nat.le_refl 0) hc hs (qwp_mono (qwp_xb h) (fun v m1 q1 => ?_) (fun _ _ q => q))
  have h' := qwp_ite (p := v = 0 ∨ v = 1) (f := fun m => some (.ok v, m)) q1
  exact g_iret X C hr (narrow_z h'.1) hdg hc hs h'.2
theorem SB_retC {res : Except Nat Int32 × QM} {x : QX Int32} {i0 c s : Nat} (X : CX k cc own) (C : CQ k encI res) (hr : (kmeth k).sig.returnType = some .char) (hdg : decode cc i = .ok (.ireturn, 1)) (he : XE k T pI env 0 i0 i c s x) : SB k T (fun v m' => res = (.ok v, m')) env i0 c s (xb x xch) := by
  intro mm a b hc hs h
  refine he [] mm a b (Nat.le_refl 0) hc hs (qwp_mono (qwp_xb h) (fun v m1 q1 => ?_) (fun _ _ q => q))
  have h' := qwp_ite (p := 0 ≤ v.toInt ∧ v.toInt < 65536) (f := fun m => some (.ok v, m)) q1
  refine g_iret X C hr ?_ hdg hc hs h'.2
  obtain ⟨j, hj, e⟩ := vp_in_of (n := 65536) (vp_in_iff.mpr h'.1) (by decide)
  rw [e]; exact (pk_charN hj).1
theorem SB_retL {res : Except Nat Int64 × QM} {x : QX Int64} {i0 c s : Nat} (X : CX k cc own) (C : CQ k encL res) (hr : (kmeth k).sig.returnType = some .long) (hdg : decode cc i = .ok (.lreturn, 1)) (he : XE k T pL env 0 i0 i c s x) : SB k T (fun v m' => res = (.ok v, m')) env i0 c s x := SB_ret he fun v mm a b ha hb h => g_lret X C hr hdg ha hb h
theorem SB_retR {res : Except Nat (Option Nat) × QM} {x : QX (Option Nat)} {rt : FieldType} {i0 c s : Nat} (X : CX k cc own) (C : CQ k encR res) (hr : (kmeth k).sig.returnType = some rt) (hrt : (∃ n, rt = .object n) ∨ ∃ t, rt = .array t) (hdg : decode cc i = .ok (.areturn, 1)) (he : XE k T pR env 0 i0 i c s x) : SB k T (fun v m' => res = (.ok v, m')) env i0 c s x := SB_ret he fun v mm a b ha hb h => g_aret X C hr hrt hdg ha hb h
theorem SB_retU {res : Except Nat Unit × QM} (X : CX k cc own) (C : CQ k encU res) (hr : (kmeth k).sig.returnType = none) (hdg : decode cc i = .ok (.return_, 1)) : SB k T (fun v m' => res = (.ok v, m')) env i 0 0 (xp ()) := SB_end fun mm a b ha hb h => g_vret X C hr hdg ha hb h
end R8
