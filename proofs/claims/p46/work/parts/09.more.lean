/-! blocks that may come to the method's end within a loop; switches; a row's clone; a constructor's first steps -/
def xsum {ρ σ : Type} (r : ρ ⊕ σ) (f : σ → QX ρ) : QX ρ := match r with
  | .inl v => xp v
  | .inr s => f s
def xlr {ρ σ : Type} : Nat → (σ → QX Bool) → (σ → QX (ρ ⊕ σ)) → σ → QX (ρ ⊕ σ)
  | 0, _, _, _ => xn
  | n + 1, c, b, s => xb (c s) fun v => if v then xb (b s) fun r => (match r with
      | .inl v => xp (.inl v)
      | .inr s' => xlr n c b s') else xp (.inr s)
-- WORDS
theorem cb_int : Cond.castable "[I" "java/lang/Cloneable" ∈ qN := qN_at 1108 (by decide +kernel) rfl
theorem cb_same : Cond.sameMethod "[I" "java/lang/Object" "clone" "()Ljava/lang/Object;" ∈ qW := qW_at 1106 (by decide +kernel) rfl
theorem cb_nat : Cond.native ⟨"java/lang/Object", "clone", "()Ljava/lang/Object;"⟩ ∈ qW := qW_at 723 (by decide +kernel) rfl
theorem cb_inst : Cond.instanceMethod ⟨"java/lang/Object", "clone", "()Ljava/lang/Object;"⟩ ∈ qW := qW_at 724 (by decide +kernel) rfl
theorem cb_sel : Cond.selects "[I" ⟨"[I", "clone", "()Ljava/lang/Object;"⟩ ⟨"java/lang/Object", "clone", "()Ljava/lang/Object;"⟩ ∈ qW := qW_at 1107 (by decide +kernel) rfl
theorem mx_st : Cond.static Lib.Math.max.name ∈ qW := qW_at 295 (by decide +kernel) rfl
theorem mx_in : Cond.initialized "java/lang/Math" ∈ qW := qW_at 40 (by decide +kernel) rfl
theorem mx_co : Cond.code Lib.Math.max.name Lib.Math.max.code 2 (some .int) ∈ qW := qW_at 296 (by decide +kernel) rfl
theorem oi_in : Cond.instanceMethod Lib.objectInit ∈ qW := qW_at 61 (by decide +kernel) rfl
theorem oi_co : Cond.code Lib.objectInit ⟨#[0xb1]⟩ 1 none ∈ qW := qW_at 62 (by decide +kernel) rfl
theorem ac_int : Cond.arrayClass .int ∈ qW := qW_at 89 (by decide +kernel) rfl
theorem ac_byte : Cond.arrayClass .byte ∈ qW := qW_at 90 (by decide +kernel) rfl
theorem ao_0 : Cond.arrayOver (.object RX0) ∈ qN := qN_at 68 (by decide +kernel) rfl
theorem ao_1 : Cond.arrayOver (.object RX1) ∈ qN := qN_at 70 (by decide +kernel) rfl
theorem ao_2 : Cond.arrayOver (.object RX2) ∈ qN := qN_at 66 (by decide +kernel) rfl
theorem ao_4 : Cond.arrayOver (.object RX4) ∈ qN := qN_at 999 (by decide +kernel) rfl
theorem ao_5 : Cond.arrayOver (.object RX5) ∈ qN := qN_at 64 (by decide +kernel) rfl
theorem in_0 : Cond.instantiable RX0 7 ∈ qW := qW_at 901 (by decide +kernel) rfl
theorem ii_0 : Cond.initialized RX0 ∈ qW := qW_at 41 (by decide +kernel) rfl
theorem in_1 : Cond.instantiable RX1 12 ∈ qW := qW_at 1189 (by decide +kernel) rfl
theorem ii_1 : Cond.initialized RX1 ∈ qW := qW_at 39 (by decide +kernel) rfl
theorem in_2 : Cond.instantiable RX2 3 ∈ qW := qW_at 91 (by decide +kernel) rfl
theorem ii_2 : Cond.initialized RX2 ∈ qW := qW_at 31 (by decide +kernel) rfl
theorem in_3 : Cond.instantiable RX3 1 ∈ qW := qW_at 1001 (by decide +kernel) rfl
theorem ii_3 : Cond.initialized RX3 ∈ qW := qW_at 38 (by decide +kernel) rfl
theorem in_4 : Cond.instantiable RX4 17 ∈ qW := qW_at 903 (by decide +kernel) rfl
theorem ii_4 : Cond.initialized RX4 ∈ qW := qW_at 42 (by decide +kernel) rfl
theorem in_5 : Cond.instantiable RX5 3 ∈ qW := qW_at 71 (by decide +kernel) rfl
theorem ii_5 : Cond.initialized RX5 ∈ qW := qW_at 30 (by decide +kernel) rfl
theorem in_6 : Cond.instantiable RX6 9 ∈ qW := qW_at 56 (by decide +kernel) rfl
theorem ii_6 : Cond.initialized RX6 ∈ qW := qW_at 29 (by decide +kernel) rfl
-- END WORDS
section R9
variable {k : QC} {T : Nat → QM → Prop} {α β γ ρ σ : Type} {env env' : List (Nat × Value)} {cc : ByteArray} {own : String} {d i : Nat}
def STR (k : QC) (T : Nat → QM → Prop) (RET : ρ → QM → Prop) (upd : σ → List (Nat × Value)) (env : List (Nat × Value)) (i j kc ks' : Nat) (x : QX (ρ ⊕ σ)) : Prop :=
  ∀ (mm : QM) (a b : Nat), a + kc ≤ (kR k).cells → b + ks' ≤ (kR k).slots → qwp x (fun r m' => (∀ v, r = .inl v → RET v m') ∧ ∀ s, r = .inr s → GG k (upd s) [] m' j (a + kc) (b + ks')) T mm → GG k env [] mm i a b
theorem STR_of {RET : ρ → QM → Prop} {upd : σ → List (Nat × Value)} {x : QX σ} {j c s : Nat} (h : ST k T upd env i j c s x) : STR k T RET upd env i j c s (xb x fun s => xp (Sum.inr s)) := by
  intro mm a b hc hs q
  exact h mm a b hc hs (qwp_mono (qwp_xb q) (fun v m' g => (show _ ∧ _ from g).2 v rfl) (fun _ _ q => q))
theorem STR_if {RET : ρ → QM → Prop} {upd : σ → List (Nat × Value)} {x : QX Bool} {y : QX ρ} {z : QX (ρ ⊕ σ)} {jT jF j c s c1 s1 c2 s2 : Nat} (hc0 : CE k T env 0 i jT jF c s x) (h1 : SB k T RET env jT c1 s1 y) (h2 : STR k T RET upd env jF j c2 s2 z) : STR k T RET upd env i j (c + max c1 c2) (s + max s1 s2) (xb x fun v => if v then (xb y fun w => xp (Sum.inl w)) else z) := by
  intro mm a b hc hs h
  refine hc0 [] mm a b (Nat.le_refl 0) (by omega) (by omega) (qwp_mono (qwp_xb h) (fun v m1 q1 => ?_) (fun _ _ q => q))
  cases v with
  | true => exact h1 m1 _ _ (by omega) (by omega) (qwp_mono (qwp_xb q1) (fun w m' g => (show _ ∧ _ from g).1 w rfl) (fun _ _ q => q))
  | false => exact h2 m1 _ _ (by omega) (by omega) (qwp_mono q1 (fun r m' g => ⟨g.1, fun s hs' => GG_widen (by omega) (by omega) (g.2 s hs')⟩) (fun _ _ q => q))
theorem STR_let {pA : α → List Value} {RET : ρ → QM → Prop} {upd : σ → List (Nat × Value)} {x : QX α} {f : α → QX (ρ ⊕ σ)} {ev : α → List (Nat × Value)} {j j' je c s c' s' : Nat} (he : XE k T pA env 0 i j c s x) (hst : ∀ (v : α) (mm : QM) (a b : Nat), GG k (ev v) [] mm j' a b → GG k env (pA v ++ []) mm j a b) (hk : ∀ v, STR k T RET upd (ev v) j' je c' s' (f v)) : STR k T RET upd env i je (c + c') (s + s') (xb x f) := by
  intro mm a b hc hs h
  exact he [] mm a b (Nat.le_refl 0) (by omega) (by omega) (qwp_mono (qwp_xb h) (fun v m1 q1 => hst v m1 _ _ (hk v m1 _ _ (by omega) (by omega) (qwp_mono q1 (fun r m' g => ⟨g.1, fun s hs' => GG_cs (g.2 s hs') (by omega) (by omega)⟩) (fun _ _ q => q)))) (fun _ _ q => q))
theorem STR_post {RET : ρ → QM → Prop} {upd : σ → List (Nat × Value)} {x : QX (ρ ⊕ σ)} {j je c s : Nat} (h : STR k T RET upd env i j c s x) (h0 : ∀ (v : σ) (mm : QM) (a b : Nat), GG k (upd v) [] mm je a b → GG k (upd v) [] mm j a b) : STR k T RET upd env i je c s x := fun mm a b hc hs q => h mm a b hc hs (qwp_mono q (fun r m' g => ⟨g.1, fun s hs' => h0 s m' _ _ (g.2 s hs')⟩) (fun _ _ q => q))
theorem STR_loop {RET : ρ → QM → Prop} {upd : σ → List (Nat × Value)} {c : σ → QX Bool} {f : σ → QX (ρ ⊕ σ)} {s0 : σ} {n h jB jX cc sc cb sb : Nat} (hi : ∀ (mm : QM) (a b : Nat), GG k (upd s0) [] mm h a b → GG k env [] mm i a b) (hc : ∀ s, CE k T (upd s) 0 h jB jX cc sc (c s)) (hb : ∀ s, STR k T RET upd (upd s) jB h cb sb (f s)) : STR k T RET upd env i jX (n * (cc + cb)) (n * (sc + sb)) (xlr n c f s0) := by
  intro mm a b h1 h2 q
  refine hi mm a b ?_
  clear hi
  induction n generalizing s0 mm a b with
  | zero => exact q.elim
  | succ n ih =>
    have e1 := q_lc n (cc + cb)
    have e2 := q_lc n (sc + sb)
    have q' : qwp (xb (c s0) fun v => if v then xb (f s0) fun r => (match r with
      | .inl v => xp (.inl v)
      | .inr s' => xlr n c f s') else xp (.inr s0)) (fun r m' => (∀ v, r = .inl v → RET v m') ∧ ∀ s, r = .inr s → GG k (upd s) [] m' jX (a + (n + 1) * (cc + cb)) (b + (n + 1) * (sc + sb))) T mm := q
    refine hc s0 [] mm a b (Nat.le_refl 0) (by omega) (by omega) (qwp_mono (qwp_xb q') (fun v m1 q1 => ?_) (fun _ _ q => q))
    cases v with
    | true =>
      refine hb s0 m1 (a + cc) (b + sc) (by omega) (by omega) (qwp_mono (qwp_xb q1) (fun r m2 q2 => ⟨fun v hv => ?_, fun s' hs' => ?_⟩) (fun _ _ q => q))
      · subst hv; exact (show _ ∧ _ from q2).1 v rfl
      · subst hs'
        exact ih m2 _ _ (by omega) (by omega) (qwp_mono q2 (fun r m' g => ⟨g.1, fun s hs' => GG_cs (g.2 s hs') (by omega) (by omega)⟩) (fun _ _ q => q))
    | false => exact GG_widen (a' := a + (n + 1) * (cc + cb)) (b' := b + (n + 1) * (sc + sb)) (by omega) (by omega) ((show _ ∧ _ from q1).2 s0 rfl)
theorem SB_seqR {RET : ρ → QM → Prop} {upd : σ → List (Nat × Value)} {x : QX (ρ ⊕ σ)} {f : σ → QX ρ} {j c s c' s' : Nat} (he : STR k T RET upd env i j c s x) (hk : ∀ v, SB k T RET (upd v) j c' s' (f v)) : SB k T RET env i (c + c') (s + s') (xb x fun r => xsum r f) := by
  intro mm a b hc hs h
  exact he mm a b (by omega) (by omega) (qwp_mono (qwp_xb h) (fun r m1 q1 => ⟨fun v hv => by subst hv; exact q1, fun s' hs' => by subst hs'; exact hk s' m1 _ _ (by omega) (by omega) q1⟩) (fun _ _ q => q))
theorem SB_sw2 {RET : ρ → QM → Prop} {a0 a1 : Int32} {x : QX Int32} {y0 y1 y2 : QX ρ} {j t0 t1 td c s c0 s0 c1 s1 c2 s2 : Nat} (he : XE k T pI env 0 i j c s x) (hw : ∀ (v : Int32) (mm : QM) (a b : Nat), GG k env [] mm (if v = a0 then t0 else if v = a1 then t1 else td) a b → GG k env (pI v ++ []) mm j a b)
    (h0 : SB k T RET env t0 c0 s0 y0) (h1 : SB k T RET env t1 c1 s1 y1) (h2 : SB k T RET env td c2 s2 y2) : SB k T RET env i (c + max (max c0 c1) c2) (s + max (max s0 s1) s2) (xb x fun v => if decide (v = a0) then y0 else if decide (v = a1) then y1 else y2) := by
  intro mm a b hc hs h
  refine he [] mm a b (Nat.le_refl 0) (by omega) (by omega) (qwp_mono (qwp_xb h) (fun v m1 q1 => hw v m1 _ _ ?_) (fun _ _ q => q))
  by_cases e0 : v = a0
  · simp only [e0, decide_true, if_true] at q1 ⊢
    exact h0 m1 _ _ (by omega) (by omega) q1
  · by_cases e1 : v = a1
    · simp only [e0, e1, decide_true, decide_false, if_true, if_false, Bool.false_eq_true] at q1 ⊢
      have e0' : ¬ a1 = a0 := e1 ▸ e0
      simp only [e0', decide_false, if_false, Bool.false_eq_true] at q1 ⊢
      exact h1 m1 _ _ (by omega) (by omega) q1
    · simp only [e0, e1, decide_false, if_false, Bool.false_eq_true] at q1 ⊢
      exact h2 m1 _ _ (by omega) (by omega) q1
theorem W2_table {a0 a1 : Int32} {lo hi d0 d1 dd : Int} {len t0 t1 td : Nat} (X : CX k cc own) (hdg : decode cc i = .ok (.tableswitch dd lo hi #[d0, d1], len)) (hk : a0.toInt = lo ∧ a1.toInt = lo + 1 ∧ hi = lo + 1) (h0 : (i : Int) + d0 = (t0 : Int) ∧ (i : Int) + d1 = (t1 : Int)) (hd : (i : Int) + dd = (td : Int)) :
    ∀ (v : Int32) (mm : QM) (a b : Nat), GG k env [] mm (if v = a0 then t0 else if v = a1 then t1 else td) a b → GG k env (pI v ++ []) mm i a b := by
  intro v mm a b h H locs ls z hR hl hls
  obtain ⟨k0, k1, k2⟩ := hk
  have e0 : v = a0 ↔ v.toInt = lo := by rw [← k0]; exact Int32.toInt_inj.symm
  have e1 : v = a1 ↔ v.toInt = lo + 1 := by rw [← k1]; exact Int32.toInt_inj.symm
  by_cases q0 : v.toInt = lo
  · rw [if_pos (e0.mpr q0)] at h
    exact lv_tableIn X.1 X.2.1 hdg (by omega) (by omega) (off := d0) (by rw [show (v.toInt - lo).toNat = 0 by omega]; rfl) h0.1 (h H locs ls z hR hl hls)
  · rw [if_neg (fun q => q0 (e0.mp q))] at h
    by_cases q1 : v.toInt = lo + 1
    · rw [if_pos (e1.mpr q1)] at h
      exact lv_tableIn X.1 X.2.1 hdg (by omega) (by omega) (off := d1) (by rw [show (v.toInt - lo).toNat = 1 by omega]; rfl) h0.2 (h H locs ls z hR hl hls)
    · rw [if_neg (fun q => q1 (e1.mp q))] at h
      exact lv_tableOut X.1 X.2.1 hdg (by omega) hd (h H locs ls z hR hl hls)
theorem W2_lookup {a0 a1 : Int32} {k0 k1 d0 d1 dd : Int} {len t0 t1 td : Nat} (X : CX k cc own) (hdg : decode cc i = .ok (.lookupswitch dd #[(k0, d0), (k1, d1)], len)) (hk : a0.toInt = k0 ∧ a1.toInt = k1 ∧ k0 < k1) (h0 : (i : Int) + d0 = (t0 : Int) ∧ (i : Int) + d1 = (t1 : Int)) (hd : (i : Int) + dd = (td : Int)) :
    ∀ (v : Int32) (mm : QM) (a b : Nat), GG k env [] mm (if v = a0 then t0 else if v = a1 then t1 else td) a b → GG k env (pI v ++ []) mm i a b := by
  intro v mm a b h H locs ls z hR hl hls
  obtain ⟨q0, q1, q2⟩ := hk
  have e0 : v = a0 ↔ v.toInt = k0 := by rw [← q0]; exact Int32.toInt_inj.symm
  have e1 : v = a1 ↔ v.toInt = k1 := by rw [← q1]; exact Int32.toInt_inj.symm
  have hp : ((#[(k0, d0), (k1, d1)] : Array (Int × Int)).toList.zip ((#[(k0, d0), (k1, d1)] : Array (Int × Int)).toList.drop 1)).all (fun (a, next) => a.1 < next.1) = true := by simp [q2]
  by_cases p0 : v.toInt = k0
  · rw [if_pos (e0.mpr p0)] at h
    exact lv_lookup X.1 X.2.1 hdg hp (off := d0) (by simp [Op.lookupswitch.offset, p0]) h0.1 (h H locs ls z hR hl hls)
  · rw [if_neg (fun q => p0 (e0.mp q))] at h
    by_cases p1 : v.toInt = k1
    · rw [if_pos (e1.mpr p1)] at h
      exact lv_lookup X.1 X.2.1 hdg hp (off := d1) (by simp [Op.lookupswitch.offset, p1, Int.ne_of_lt q2, (Int.ne_of_lt q2).symm]) h0.2 (h H locs ls z hR hl hls)
    · rw [if_neg (fun q => p1 (e1.mp q))] at h
      exact lv_lookup X.1 X.2.1 hdg hp (off := dd) (by simp [Op.lookupswitch.offset, p0, p1, Ne.symm p0, Ne.symm p1, fun q : k0 = v.toInt => p0 q.symm, fun q : k1 = v.toInt => p1 q.symm]) hd (h H locs ls z hR hl hls)
theorem L_ldcw {n : Nat} {v : Int32} (X : CX k cc own) (hdg : decode cc i = .ok (.ldc_w n, 3)) (hw : Cond.constant own n v ∈ qW) : XE k T pI env d i (i + 3) 0 0 (xp v) := XE_pure fun _ _ _ _ h => fun H locs ls z hR hl hls => lv_ldcw X.1 X.2.1 X.2.2.2.1 (X.2.2.2.2.1 _ hw) hdg (h H locs ls z hR hl hls)
/-- a constructor begins: its object, Object's own constructor -/
theorem S_super {n q j : Nat} {z : Fin 4} (X : CX k cc own) (d0 : decode cc i = .ok (.aload_n z, 1)) (hz : (z : Nat) = 0) (d1 : decode cc (i + 1) = .ok (.invokespecial n, 3)) (he : env[j]? = some (0, .ref q)) (hl : Cond.methodLink own n Lib.objectInit ∈ qW) (hin : Cond.instanceMethod Lib.objectInit ∈ qW) (hco : Cond.code Lib.objectInit ⟨#[0xb1]⟩ 1 none ∈ qW) (hf : 1 ≤ (kR k).frames) (hlo : 12 ≤ (kR k).locals) :
    ∀ (mm : QM) (a b : Nat), GG k env [] mm (i + 4) a b → GG k env [] mm i a b := fun _ _ _ h => g_aload_n (r := some q) j X d0 hz he (g_objinit X hl hin hco hf hlo d1 h)
theorem O_max {n : Nat} (X : CX k cc own) (hl : Cond.methodLink own n Lib.Math.max.name ∈ qW) (hst : Cond.static Lib.Math.max.name ∈ qW) (hini : Cond.initialized "java/lang/Math" ∈ qW) (hcode : Cond.code Lib.Math.max.name Lib.Math.max.code 2 (some .int) ∈ qW) (hf : 1 ≤ (kR k).frames) (hd8 : d ≤ 8) (hlo : 21 ≤ (kR k).locals) (hdg : decode cc i = .ok (.invokestatic n, 3)) : OP2 k T pI pI pI env d i (i + 3) 0 0 (fun x y => xp (if x < y then y else x)) :=
  fun _ _ _ _ _ _ hd hc hs h => g_max X hl hst hini hcode hf (Nat.le_trans (Nat.add_le_add_right (Nat.le_trans hd hd8) 13) hlo) hc hs hdg h
/-- a row of numbers, once more -/
theorem O_clone {n n2 cap : Nat} (X : CX k cc own) (hl : Cond.methodLink own n ⟨"[I", "clone", "()Ljava/lang/Object;"⟩ ∈ qW) (hk : Cond.classLink own n2 "[I" ∈ qW) (hf : 1 ≤ (kR k).frames) (hd8 : d ≤ 8) (hlo : 22 ≤ (kR k).locals) (hdg : decode cc i = .ok (.invokevirtual n, 3)) (hdg2 : decode cc (i + 3) = .ok (.checkcast n2, 3)) : OP1 k T pR pR env d i (i + 6) 1 cap (fun r => xclone r cap) := by
  intro r st mm a b hd hc hs h
  cases r with
  | none => exact h.elim
  | some q =>
    by_cases hq : (qty mm q).1 = 2 ∧ (qty mm q).2.1 = 0 ∧ (qty mm q).2.2 ≤ cap
    · unfold qwp xclone at h
      simp only [if_pos hq] at h
      obtain ⟨h1, h2, h3⟩ := hq
      have ht : qty mm q = (2, 0, (qty mm q).2.2) := by rw [← h1, ← h2]
      generalize (qty mm q).2.2 = N at h ht h3
      intro H locs ls z hR hl' hls
      have hKn := X.2.2.2.2.2
      have hcell := hR.arrP ht
      have hsz : (vp_cell (kDA k 0) (N, .inl (qai mm q))).slots.size = N := arrV_size _ _ _
      have hvm0 : (vp_cell (kDA k 0) (N, .inl (qai mm q))).vm = .none := rfl
      have hcl0 : (vp_cell (kDA k 0) (N, .inl (qai mm q))).cls = kDA k 0 := rfl
      have hcellE : ({ cls := (vp_cell (kDA k 0) (N, .inl (qai mm q))).cls, slots := (vp_cell (kDA k 0) (N, .inl (qai mm q))).slots } : Cell) = vp_cell (kDA k 0) (N, .inl (qai mm q)) := rfl
      have hnm : (ks k).vm.findClass "[I" = some (kDA k 0) := va_nm_int (X.arr (t := 0) (by decide)).2
      obtain ⟨c0, t0', f1, f2, f3⟩ := Cond.castable_spec (hKn.word (A := ka k) cb_int)
      cases hnm.symm.trans f1
      intro U hU X'
      have hcellT : U.heap[q]? = some (vp_cell (kDA k 0) (N, .inl (qai mm q))) := by rw [hU]; exact hcell
      obtain ⟨-, kA, hkA, comp, hkind⟩ := State.isArrayOf_alike X'.warmed.alike ((X.arr (t := 0) (by decide)).1 0 (fun _ => .null))
      obtain ⟨-, kS, hkS, compS, hkindS⟩ := (X.arr (t := 0) (by decide)).1 0 (fun _ => .null)
      obtain ⟨vm', X'', st2⟩ := X'.cloneArray X.1 X.2.2.2.1 (X.2.2.2.2.1 _ hl) (X.2.2.2.2.1 _ cb_same) (X.2.2.2.2.1 _ cb_nat) (X.2.2.2.2.1 _ cb_inst) (X.2.2.2.2.1 _ cb_sel) (a := q) (cell := vp_cell (kDA k 0) (N, .inl (qai mm q))) hcellT (fun k h => by rw [hvm0] at h; cases h) (by rw [hvm0]; exact fun h => by cases h) (by rw [hcl0]; exact hnm) f2 (by rw [hcl0]; exact f3)
        (fun j v hv => by
          rw [hcl0]
          have hk' : U.vm.classes[kDA k 0]? = some kA := hkA
          have hv' : fits .int v = true := va_fit (cA := kDA k 0) (n := N) (F := fun j => .int (qai mm q j)) (fun j hj => rfl) j v hv
          have hkind' : kA.kind = .array comp .int := hkind
          simpa [State.fitsSlot, State.slotType?, hk', hkind'] using hv')
        (g := F0 (km k) i ls (.ref q :: st)) rfl (by rw [X.2.2.1]; exact hls.1) rfl (by rw [X.2.1]; exact hdg) hf (by have hd' : (st.map fun v => v.category).sum ≤ d := hd; show 2 * 0 + _ + 14 ≤ _; omega) hc (by rw [hsz]; omega) (hloader := by rw [hcl0]; exact Vm.clonesLoader_of_array hkS hkindS)
      rw [hcellE, hsz] at X''
      have hz := hR.2.1
      have hR' : HR (kD k) (kDA k) (kHs k) (qnewi mm 0 N (qai mm q)) (H.push (vp_cell (kDA k 0) (N, .inl (qai mm q)))) :=
        hR.pushP (by rw [Array.size_push]) (fun p hp => by rw [Array.getElem?_push, if_neg (Nat.ne_of_lt hp)]) (by rw [← hz, Array.getElem?_push_size])
      have hend : W (kp k) (kl k) (ke k) (kR k) (ks k) (km k) (ka k) (kb k) (kmeth k) (kc k) (H.push (vp_cell (kDA k 0) (N, .inl (qai mm q)))) locs (a + 1) (b + N) (kQ k) (F0 (km k) (i + 3) ls (.ref (qtop mm) :: st)) := by
        refine va_castA (D := kD k) (cl := vwCl) (ws := [(qtop mm, .inl (kDA k 0, (N, .inl (qai mm q))))]) X.1 X.2.1 X.2.2.2.1 (X.2.2.2.2.1 _ hk) (q1A (by rw [← hz, Array.getElem?_push_size])) 0 rfl hnm hdg2 ?_
        exact W.widen (Nat.le_refl _) (show b + N ≤ b + cap by omega) (h _ locs ls (by rw [Array.size_push]; omega) hR' hl' hls)
      rw [← hz] at hend
      obtain ⟨t, b1, b2⟩ := hend ((U.setVm vm').pushCell (vp_cell (kDA k 0) (N, .inl (qai mm q)))) (by rw [← hU]; rfl) X''
      refine ⟨t, st2 t ?_, b2⟩
      rw [hcellE, hU]
      exact b1
    · unfold qwp xclone at h
      simp only [if_neg hq] at h
end R9
theorem SB_go {ρ : Type} {k : QC} {T : Nat → QM → Prop} {RET : ρ → QM → Prop} {env : List (Nat × Value)} {i kc ks' : Nat} {x : QX ρ} {mm : QM} (hS : SB k T RET env i kc ks' x) (h : qwp x RET T mm) (hc : 0 + kc ≤ (kR k).cells) (hs : 0 + ks' ≤ (kR k).slots) : GG k env [] mm i 0 0 := hS mm 0 0 hc hs h
