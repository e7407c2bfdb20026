/-! rows for texts; the builder in the memory -/
theorem ay_nat : Cond.native arraycopyName ∈ qW := qW_at 733 (by decide +kernel) rfl
theorem ay_st : Cond.static arraycopyName ∈ qW := qW_at 732 (by decide +kernel) rfl
theorem ay_in : Cond.initialized "java/lang/System" ∈ qW := qW_at 52 (by decide +kernel) rfl
theorem mn_st : Cond.static Lib.Math.min.name ∈ qW := qW_at 729 (by decide +kernel) rfl
theorem mn_co : Cond.code Lib.Math.min.name Lib.Math.min.code 2 (some .int) ∈ qW := qW_at 730 (by decide +kernel) rfl
/-- an array's rows at once -/
def sarr (m : QM) (a : Nat) (f : Nat → Int32) : QM := (m.1, m.2.1, m.2.2.1, m.2.2.2.1, va_up m.2.2.2.2.1 a f, m.2.2.2.2.2)
section T60
variable {k : QC} {cc : ByteArray} {own : String} {env env' : List (Nat × Value)} {st : List Value} {mm : QM} {pc a b : Nat} {T : Nat → QM → Prop}
theorem HR.putA {D : va_G} {DA : Nat → ClassId} {Hs : Heap} {m : QM} {H H' : Heap} (hR : HR D DA Hs m H) {q u n : Nat} {f : Nat → Int32} (ht : qty m q = (2, u, n)) (z : H'.size = H.size) (o : ∀ p : Nat, p ≠ q → H'[p]? = H[p]?) (e : H'[q]? = some (vp_cell (DA u) (n, .inl f))) : HR D DA Hs (sarr m q f) H' := by
  refine hR.put (by rw [ht]; exact Nat.succ_ne_zero 1) z o rfl (fun _ => rfl) (fun _ _ _ => rfl) (fun _ _ _ => rfl) (fun _ _ _ => rfl) (fun p hp => va_up_diff _ _ hp) (fun _ _ => rfl) (fun _ _ => rfl) ?_
  have ht' : qty (sarr m q f) q = (2, u, n) := ht
  refine ⟨fun w => ?_, fun _ => ?_, fun w => ?_, fun w => ?_⟩
  · rw [ht'] at w; simp at w
  · rw [ht', e, show qai (sarr m q f) q = f from va_up_same _ _ _]
  · rw [ht'] at w; simp at w
  · rw [ht'] at w; simp at w
theorem g_ineg {x : Int32} (X : CX k cc own) (hdg : decode cc pc = .ok (.ineg, 1)) (h : GG k env (.int (-x) :: st) mm (pc + 1) a b) : GG k env (.int x :: st) mm pc a b :=
  fun H locs ls z hR hl hls => lv_ineg X.1 X.2.1 hdg (h H locs ls z hR hl hls)
theorem g_i2b {x v : Int32} (X : CX k cc own) (hdg : decode cc pc = .ok (.i2b, 1)) (hv : x.toInt8.toInt32 = v) (h : GG k env (.int v :: st) mm (pc + 1) a b) : GG k env (.int x :: st) mm pc a b :=
  fun H locs ls z hR hl hls => lv_i2b X.1 X.2.1 hdg hv (h H locs ls z hR hl hls)
theorem g_dup_x1 {v w : Value} (X : CX k cc own) (hdg : decode cc pc = .ok (.dup_x1, 1)) (hv : v.category = 1) (hw : w.category = 1) (h : GG k env (v :: w :: v :: st) mm (pc + 1) a b) : GG k env (v :: w :: st) mm pc a b :=
  fun H locs ls z hR hl hls => lv_dup_x1 X.1 X.2.1 hdg hv hw (h H locs ls z hR hl hls)
theorem g_min {i : Nat} {x y : Int32} (X : CX k cc own) (hl : Cond.methodLink own i Lib.Math.min.name ∈ qW) (hf : 1 ≤ (kR k).frames) (hlo : scat st + 13 ≤ (kR k).locals) (hc : a ≤ (kR k).cells) (hs : b ≤ (kR k).slots) (hdg : decode cc pc = .ok (.invokestatic i, 3)) (h : GG k env (.int (if y < x then y else x) :: st) mm (pc + 3) a b) : GG k env (.int y :: .int x :: st) mm pc a b :=
  fun H locs ls z hR hl' hls => va_mmin X.1 X.2.1 (by rw [X.2.2.1]; exact hls.1.symm) X.2.2.2.1 (X.2.2.2.2.1 _ hl) (X.2.2.2.2.1 _ mn_st) (X.2.2.2.2.1 _ mx_in) (X.2.2.2.2.1 _ mn_co) hf hlo hc hs hdg (h H locs ls z hR hl' hls)
theorem t_al {n : Fin 4} {q i : Nat} (j : Nat) (X : CX k cc own) (hdg : decode cc pc = .ok (.aload_n n, 1)) (hi : (n : Nat) = i) (he : env[j]? = some (i, .ref q)) (h : GG k env (.ref q :: st) mm (pc + 1) a b) : GG k env st mm pc a b := g_aload_n (r := some q) j X hdg hi he h
theorem t_as {n : Fin 4} {q i : Nat} (X : CX k cc own) (hdg : decode cc pc = .ok (.astore_n n, 1)) (hi : (n : Nat) = i) (hn : i < knL k) (he : e1 env i (.ref q) = env') (h : GG k env' st mm (pc + 1) a b) : GG k env (.ref q :: st) mm pc a b := g_astore_n (r := some q) X hdg hi hn he h
theorem t_dup {q : Nat} (X : CX k cc own) (hdg : decode cc pc = .ok (.dup, 1)) (h : GG k env (.ref q :: .ref q :: st) mm (pc + 1) a b) : GG k env (.ref q :: st) mm pc a b := g_dup (r := some q) X hdg h
/- branches that are decided -/
theorem t_eqT {x : Int32} {off : Int} {tgt : Nat} (X : CX k cc own) (hdg : decode cc pc = .ok (.ifCond .eq off, 3)) (ht : (pc : Int) + off = (tgt : Int)) (h0 : x = 0) (h : GG k env st mm tgt a b) : GG k env (.int x :: st) mm pc a b := g_if_eq X hdg ht (by rw [if_pos h0]; exact h)
theorem t_eqF {x : Int32} {off : Int} (tgt : Nat) (X : CX k cc own) (hdg : decode cc pc = .ok (.ifCond .eq off, 3)) (ht : (pc : Int) + off = (tgt : Int)) (h0 : ¬ x = 0) (h : GG k env st mm (pc + 3) a b) : GG k env (.int x :: st) mm pc a b := g_if_eq X hdg ht (by rw [if_neg h0]; exact h)
theorem t_neT {x : Int32} {off : Int} {tgt : Nat} (X : CX k cc own) (hdg : decode cc pc = .ok (.ifCond .ne off, 3)) (ht : (pc : Int) + off = (tgt : Int)) (h0 : ¬ x = 0) (h : GG k env st mm tgt a b) : GG k env (.int x :: st) mm pc a b := g_if_ne X hdg ht (by rw [if_pos h0]; exact h)
theorem t_neF {x : Int32} {off : Int} (tgt : Nat) (X : CX k cc own) (hdg : decode cc pc = .ok (.ifCond .ne off, 3)) (ht : (pc : Int) + off = (tgt : Int)) (h0 : x = 0) (h : GG k env st mm (pc + 3) a b) : GG k env (.int x :: st) mm pc a b := g_if_ne X hdg ht (by rw [if_neg (fun q => q h0)]; exact h)
theorem t_ltF {x : Int32} {off : Int} (tgt : Nat) (X : CX k cc own) (hdg : decode cc pc = .ok (.ifCond .lt off, 3)) (ht : (pc : Int) + off = (tgt : Int)) (h0 : ¬ x < 0) (h : GG k env st mm (pc + 3) a b) : GG k env (.int x :: st) mm pc a b := g_if_lt X hdg ht (by rw [if_neg h0]; exact h)
theorem t_geT {x : Int32} {off : Int} {tgt : Nat} (X : CX k cc own) (hdg : decode cc pc = .ok (.ifCond .ge off, 3)) (ht : (pc : Int) + off = (tgt : Int)) (h0 : 0 ≤ x) (h : GG k env st mm tgt a b) : GG k env (.int x :: st) mm pc a b := g_if_ge X hdg ht (by rw [if_pos h0]; exact h)
theorem t_leT {x : Int32} {off : Int} {tgt : Nat} (X : CX k cc own) (hdg : decode cc pc = .ok (.ifCond .le off, 3)) (ht : (pc : Int) + off = (tgt : Int)) (h0 : x ≤ 0) (h : GG k env st mm tgt a b) : GG k env (.int x :: st) mm pc a b := g_if_le X hdg ht (by rw [if_pos h0]; exact h)
theorem t_leF {x : Int32} {off : Int} (tgt : Nat) (X : CX k cc own) (hdg : decode cc pc = .ok (.ifCond .le off, 3)) (ht : (pc : Int) + off = (tgt : Int)) (h0 : ¬ x ≤ 0) (h : GG k env st mm (pc + 3) a b) : GG k env (.int x :: st) mm pc a b := g_if_le X hdg ht (by rw [if_neg h0]; exact h)
theorem t_ceqT {x y : Int32} {off : Int} {tgt : Nat} (X : CX k cc own) (hdg : decode cc pc = .ok (.if_icmp .eq off, 3)) (ht : (pc : Int) + off = (tgt : Int)) (h0 : x = y) (h : GG k env st mm tgt a b) : GG k env (.int y :: .int x :: st) mm pc a b := g_icmp_eq X hdg ht (by rw [if_pos h0]; exact h)
theorem t_cneT {x y : Int32} {off : Int} {tgt : Nat} (X : CX k cc own) (hdg : decode cc pc = .ok (.if_icmp .ne off, 3)) (ht : (pc : Int) + off = (tgt : Int)) (h0 : ¬ x = y) (h : GG k env st mm tgt a b) : GG k env (.int y :: .int x :: st) mm pc a b := g_icmp_ne X hdg ht (by rw [if_pos h0]; exact h)
theorem t_cneF {x y : Int32} {off : Int} (tgt : Nat) (X : CX k cc own) (hdg : decode cc pc = .ok (.if_icmp .ne off, 3)) (ht : (pc : Int) + off = (tgt : Int)) (h0 : x = y) (h : GG k env st mm (pc + 3) a b) : GG k env (.int y :: .int x :: st) mm pc a b := g_icmp_ne X hdg ht (by rw [if_neg (fun q => q h0)]; exact h)
theorem t_cltT {x y : Int32} {off : Int} {tgt : Nat} (X : CX k cc own) (hdg : decode cc pc = .ok (.if_icmp .lt off, 3)) (ht : (pc : Int) + off = (tgt : Int)) (h0 : x < y) (h : GG k env st mm tgt a b) : GG k env (.int y :: .int x :: st) mm pc a b := g_icmp_lt X hdg ht (by rw [if_pos h0]; exact h)
theorem t_cgeT {x y : Int32} {off : Int} {tgt : Nat} (X : CX k cc own) (hdg : decode cc pc = .ok (.if_icmp .ge off, 3)) (ht : (pc : Int) + off = (tgt : Int)) (h0 : y ≤ x) (h : GG k env st mm tgt a b) : GG k env (.int y :: .int x :: st) mm pc a b := g_icmp_ge X hdg ht (by rw [if_pos h0]; exact h)
theorem t_cgeF {x y : Int32} {off : Int} (tgt : Nat) (X : CX k cc own) (hdg : decode cc pc = .ok (.if_icmp .ge off, 3)) (ht : (pc : Int) + off = (tgt : Int)) (h0 : ¬ y ≤ x) (h : GG k env st mm (pc + 3) a b) : GG k env (.int y :: .int x :: st) mm pc a b := g_icmp_ge X hdg ht (by rw [if_neg h0]; exact h)
theorem t_cgtF {x y : Int32} {off : Int} (tgt : Nat) (X : CX k cc own) (hdg : decode cc pc = .ok (.if_icmp .gt off, 3)) (ht : (pc : Int) + off = (tgt : Int)) (h0 : ¬ y < x) (h : GG k env st mm (pc + 3) a b) : GG k env (.int y :: .int x :: st) mm pc a b := g_icmp_gt X hdg ht (by rw [if_neg h0]; exact h)
theorem t_cgtT {x y : Int32} {off : Int} {tgt : Nat} (X : CX k cc own) (hdg : decode cc pc = .ok (.if_icmp .gt off, 3)) (ht : (pc : Int) + off = (tgt : Int)) (h0 : y < x) (h : GG k env st mm tgt a b) : GG k env (.int y :: .int x :: st) mm pc a b := g_icmp_gt X hdg ht (by rw [if_pos h0]; exact h)
theorem t_cleT {x y : Int32} {off : Int} {tgt : Nat} (X : CX k cc own) (hdg : decode cc pc = .ok (.if_icmp .le off, 3)) (ht : (pc : Int) + off = (tgt : Int)) (h0 : x ≤ y) (h : GG k env st mm tgt a b) : GG k env (.int y :: .int x :: st) mm pc a b := g_icmp_le X hdg ht (by rw [if_pos h0]; exact h)
theorem t_cleF {x y : Int32} {off : Int} (tgt : Nat) (X : CX k cc own) (hdg : decode cc pc = .ok (.if_icmp .le off, 3)) (ht : (pc : Int) + off = (tgt : Int)) (h0 : ¬ x ≤ y) (h : GG k env st mm (pc + 3) a b) : GG k env (.int y :: .int x :: st) mm pc a b := g_icmp_le X hdg ht (by rw [if_neg h0]; exact h)
theorem t_nn {q : Nat} {off : Int} {tgt : Nat} (X : CX k cc own) (hdg : decode cc pc = .ok (.ifnonnull off, 3)) (ht : (pc : Int) + off = (tgt : Int)) (h : GG k env st mm tgt a b) : GG k env (.ref q :: st) mm pc a b := g_ifnonnull (r := some q) X hdg ht (by rw [if_neg (by simp)]; exact h)
/- the builder's fields -/
theorem t_sbi {j i q : Nat} {v : Int32} (X : CX k cc own) (hj : j < 4) (hl : Cond.fieldLink own i (TJ4 j).1 (TJ4 j).2.1 (TJ4 j).2.2.1 ∈ qW) (hk : qk 0 j = 0) (hdg : decode cc pc = .ok (.getfield i, 3)) (ht : qty mm q = (1, 0, 0)) (hv : qfi mm j q = v) (h : GG k env (.int v :: st) mm (pc + 3) a b) : GG k env (.ref q :: st) mm pc a b :=
  g_get (c := 0) (j := j) X rfl inWJ4 hj hl hdg ht (by unfold qfv; rw [if_pos hk, show 64 * 0 + j = j from by omega, hv]) h
theorem t_sbr {i q r : Nat} (X : CX k cc own) (hl : Cond.fieldLink own i (TJ4 0).1 (TJ4 0).2.1 (TJ4 0).2.2.1 ∈ qW) (hdg : decode cc pc = .ok (.getfield i, 3)) (ht : qty mm q = (1, 0, 0)) (hv : qfr mm 0 q = some r) (h : GG k env (.ref r :: st) mm (pc + 3) a b) : GG k env (.ref q :: st) mm pc a b :=
  g_get (c := 0) (j := 0) X rfl inWJ4 (by decide) hl hdg ht (by show va_rf (qfr mm 0 q) = _; rw [hv]; rfl) h
theorem t_sbpc {i q : Nat} {v : Int32} (X : CX k cc own) (hl : Cond.fieldLink own i (TJ4 3).1 (TJ4 3).2.1 (TJ4 3).2.2.1 ∈ qW) (hdg : decode cc pc = .ok (.putfield i, 3)) (ht : qty mm q = (1, 0, 0)) (h : GG k env st (sfi mm 3 q v) (pc + 3) a b) : GG k env (.int v :: .ref q :: st) mm pc a b :=
  g_put (c := 0) (j := 3) (v := .int v) (mm' := sfi mm 3 q v) tyJ4 X rfl inWJ4 tyJ4_ok nmJ4 (by decide) hl (Or.inl rfl) (ty := .int) rfl rfl rfl hdg ht (fun H H' hR z o hcell => hR.putFi (by rw [ht]; exact Nat.one_ne_zero) z o hcell) ht (q_fvi (c := 0) (j := 3) rfl) h
theorem t_sbpo {i q : Nat} (X : CX k cc own) (hl : Cond.fieldLink own i (TJ4 1).1 (TJ4 1).2.1 (TJ4 1).2.2.1 ∈ qW) (hdg : decode cc pc = .ok (.putfield i, 3)) (ht : qty mm q = (1, 0, 0)) (h : GG k env st (sfi mm 1 q 0) (pc + 3) a b) : GG k env (.int 0 :: .ref q :: st) mm pc a b :=
  g_put (c := 0) (j := 1) (v := .int 0) (mm' := sfi mm 1 q 0) tyJ4 X rfl inWJ4 tyJ4_ok nmJ4 (by decide) hl (Or.inl rfl) (ty := .byte) rfl (by decide) (by decide) hdg ht (fun H H' hR z o hcell => hR.putFi (by rw [ht]; exact Nat.one_ne_zero) z o hcell) ht (q_fvi (c := 0) (j := 1) rfl) h
theorem t_sbpv {i q r : Nat} (X : CX k cc own) (hl : Cond.fieldLink own i (TJ4 0).1 (TJ4 0).2.1 (TJ4 0).2.2.1 ∈ qW) (hdg : decode cc pc = .ok (.putfield i, 3)) (ht : qty mm q = (1, 0, 0)) (h : GG k env st (sfr mm 0 q (some r)) (pc + 3) a b) : GG k env (.ref r :: .ref q :: st) mm pc a b :=
  g_put (c := 0) (j := 0) (v := .ref r) (mm' := sfr mm 0 q (some r)) tyJ4 X rfl inWJ4 tyJ4_ok nmJ4 (by decide) hl (Or.inl rfl) (ty := .array .byte) rfl rfl rfl hdg ht (fun H H' hR z o hcell => hR.putFr (by rw [ht]; exact Nat.one_ne_zero) z o hcell) ht (q_fvr (c := 0) (j := 0) (x := some r) rfl) h
/- what the texts are, in the heap at hand -/
def HO (k : QC) : Prop := ∀ q : Nat, q < (kHs k).size → (ks k).heap[q]? = (kHs k)[q]?
theorem t_S (ho : HO k) {H : Heap} {locs : List Loc} (z : (ks k).heap.size ≤ H.size) (hR : HR (kD k) (kDA k) (kHs k) mm H) (hl : ∀ y ∈ locs, (kHs k).size ≤ y.base) : va_S (fun q => (kHs k).size ≤ q) (ks k).heap H locs :=
  ⟨z, fun q h1 h2 => (hR.2.2.1 q (Nat.not_le.mp h2)).trans (ho q (Nat.not_le.mp h2)).symm, hl⟩
theorem CX.ks (X : CX k cc own) : KS (kDA k) (kHs k) (ks k) := X.2.2.2.2.2.2.2.2.2.2.2
theorem HO.hold (ho : HO k) : ∀ q : Nat, q < (kHs k).size → ¬ (kHs k).size ≤ q → (ks k).heap[q]? = (kHs k)[q]? := fun q h _ => ho q h
theorem t_ldc {i j : Nat} (hj : j < 7) (X : CX k cc RX6) (hdg : decode cc pc = .ok (.ldc_w i, 3)) (hi : i = qsi j) (h : GG k env (.ref (kDA k (100 + j)) :: st) mm (pc + 3) a b) : GG k env st mm pc a b := by
  subst hi
  obtain ⟨adV, aO, aT, -, hr, -⟩ := X.ks
  intro H locs ls z hR hl hls T' hT X'
  obtain ⟨t, a1, b1⟩ := h H locs ls z hR hl hls T' hT X'
  exact ⟨t, X'.ldcStringW X.1 X.2.2.2.1 (text := qst.getD j "") (a := kDA k (100 + j)) (hr j hj).1 (hr j hj).2 (g := F0 (km k) pc ls st) rfl (by rw [X.2.1]; exact hdg) t a1, b1⟩
theorem t_compact {i : Nat} (X : CX k cc own) (ho : HO k) (hl : Cond.fieldLink own i "java/lang/String" "COMPACT_STRINGS" "Z" ∈ qW) (hdg : decode cc pc = .ok (.getstatic i, 3)) (h : GG k env (.int 1 :: st) mm (pc + 3) a b) : GG k env st mm pc a b := by
  obtain ⟨adV, aO, aT, -, -, hz, -⟩ := X.ks
  exact fun H locs ls z hR hl' hls => va_gets X.1 X.2.1 (hz.kept ho.hold) (t_S ho z hR hl') X.2.2.2.1 (X.2.2.2.2.1 _ hl) (fun _ q => q) hdg (h H locs ls z hR hl' hls)
theorem t_digO {i : Nat} (X : CX k cc own) (ho : HO k) (hl : Cond.fieldLink own i "java/lang/Integer" "DigitOnes" "[B" ∈ qW) (hdg : decode cc pc = .ok (.getstatic i, 3)) (h : ∀ aO, va_T .byte aO 100 (fun j => .int (qdO j)) (fun q => (kHs k).size ≤ q) (ks k) (ks k).heap → GG k env (.ref aO :: st) mm (pc + 3) a b) : GG k env st mm pc a b := by
  obtain ⟨adV, aO, aT, -, -, -, hz, ht, -⟩ := X.ks
  exact fun H locs ls z hR hl' hls => va_gets X.1 X.2.1 (hz.kept ho.hold) (t_S ho z hR hl') X.2.2.2.1 (X.2.2.2.2.1 _ hl) (fun _ q => q) hdg (h aO (ht.kept ho.hold) H locs ls z hR hl' hls)
theorem t_digT {i : Nat} (X : CX k cc own) (ho : HO k) (hl : Cond.fieldLink own i "java/lang/Integer" "DigitTens" "[B" ∈ qW) (hdg : decode cc pc = .ok (.getstatic i, 3)) (h : ∀ aO, va_T .byte aO 100 (fun j => .int (qdT j)) (fun q => (kHs k).size ≤ q) (ks k) (ks k).heap → GG k env (.ref aO :: st) mm (pc + 3) a b) : GG k env st mm pc a b := by
  obtain ⟨adV, aO, aT, -, -, -, -, -, hz, ht, -⟩ := X.ks
  exact fun H locs ls z hR hl' hls => va_gets X.1 X.2.1 (hz.kept ho.hold) (t_S ho z hR hl') X.2.2.2.1 (X.2.2.2.2.1 _ hl) (fun _ q => q) hdg (h aT (ht.kept ho.hold) H locs ls z hR hl' hls)
theorem t_form {i : Nat} (X : CX k cc own) (ho : HO k) (hl : Cond.fieldLink own i "jdk/internal/util/Preconditions" "SIOOBE_FORMATTER" "Ljava/util/function/BiFunction;" ∈ qW) (hdg : decode cc pc = .ok (.getstatic i, 3)) (h : ∀ r : Option Nat, GG k env (va_rf r :: st) mm (pc + 3) a b) : GG k env st mm pc a b := by
  obtain ⟨adV, aO, aT, -, -, -, -, -, -, -, hz⟩ := X.ks
  rcases hz with hz | ⟨t, hz⟩
  · exact fun H locs ls z hR hl' hls => va_gets X.1 X.2.1 (hz.kept ho.hold) (t_S ho z hR hl') X.2.2.2.1 (X.2.2.2.2.1 _ hl) (fun _ q => q) hdg (h none H locs ls z hR hl' hls)
  · exact fun H locs ls z hR hl' hls => va_gets X.1 X.2.1 (hz.kept ho.hold) (t_S ho z hR hl') X.2.2.2.1 (X.2.2.2.2.1 _ hl) (fun _ q => q) hdg (h (some t) H locs ls z hR hl' hls)
theorem t_tb {t N : Nat} {f : Nat → Value} {i : Int32} {v : Value} (X : CX k cc own) (ho : HO k) (hT : va_T .byte t N f (fun q => (kHs k).size ≤ q) (ks k) (ks k).heap) (hin : vp_in i N) (hv : f i.toNatClampNeg = v) (hdg : decode cc pc = .ok (.baload, 1)) (h : GG k env (v :: st) mm (pc + 1) a b) : GG k env (.int i :: .ref t :: st) mm pc a b :=
  fun H locs ls z hR hl' hls => va_tb X.1 X.2.1 hT (t_S ho z hR hl') hin hv hdg (h H locs ls z hR hl' hls)
theorem t_tlen {t N : Nat} {f : Nat → Value} {v : Int32} (X : CX k cc own) (ho : HO k) (hT : va_T .byte t N f (fun q => (kHs k).size ≤ q) (ks k) (ks k).heap) (hv : Int32.ofNat N = v) (hdg : decode cc pc = .ok (.arraylength, 1)) (h : GG k env (.int v :: st) mm (pc + 1) a b) : GG k env (.ref t :: st) mm pc a b :=
  fun H locs ls z hR hl' hls => va_tlen X.1 X.2.1 hT (t_S ho z hR hl') hv hdg (h H locs ls z hR hl' hls)
theorem t_srecv {j : Nat} (X : CX k cc own) (hj : j < 7) : ∀ H, HR (kD k) (kDA k) (kHs k) mm H → ∃ cell : Cell, H[kDA k (100 + j)]? = some cell ∧ cell.vm.isStatics = false ∧ (ks k).vm.findClass "java/lang/String" = some cell.cls := by
  intro H hR
  obtain ⟨adV, aO, aT, hs, -⟩ := X.ks
  obtain ⟨cell, h1, h2, h3, -⟩ := (hs.1 j hj).1.kept (H1 := H) (fun q h _ => hR.2.2.1 q h)
  exact ⟨cell, h1, h2, h3⟩
theorem t_scod {i j : Nat} (hj : j < 7) (X : CX k cc own) (ho : HO k) (hl : Cond.fieldLink own i "java/lang/String" "coder" "B" ∈ qW) (hdg : decode cc pc = .ok (.getfield i, 3)) (h : GG k env (.int 0 :: st) mm (pc + 3) a b) : GG k env (.ref (kDA k (100 + j)) :: st) mm pc a b := by
  obtain ⟨adV, aO, aT, hs, -⟩ := X.ks
  exact fun H locs ls z hR hl' hls => vk_getf X.1 X.2.1 ((hs.1 j hj).2.1.kept ho.hold) (t_S ho z hR hl') X.2.2.2.1 (X.2.2.2.2.1 _ hl) (fun _ q => q) hdg (h H locs ls z hR hl' hls)
theorem t_sval {i j : Nat} (hj : j < 7) (X : CX k cc own) (ho : HO k) (hl : Cond.fieldLink own i "java/lang/String" "value" "[B" ∈ qW) (hdg : decode cc pc = .ok (.getfield i, 3)) (h : ∀ q, va_T .byte q (qsl.getD j 0) (fun y => .int ((qsb.getD j []).getD y 0)) (fun q => (kHs k).size ≤ q) (ks k) (ks k).heap → GG k env (.ref q :: st) mm (pc + 3) a b) : GG k env (.ref (kDA k (100 + j)) :: st) mm pc a b := by
  obtain ⟨adV, aO, aT, hs, -⟩ := X.ks
  exact fun H locs ls z hR hl' hls => vk_getf X.1 X.2.1 ((hs.1 j hj).2.2.1.kept ho.hold) (t_S ho z hR hl') X.2.2.2.1 (X.2.2.2.2.1 _ hl) (fun _ q => q) hdg (h (adV j) ((hs.1 j hj).2.2.2.kept ho.hold) H locs ls z hR hl' hls)
/-- System.arraycopy of bytes into an array of the memory -/
theorem t_copy {i b0 n0 q n1 : Nat} {f : Nat → Int32} {sp dp n : Int32} (X : CX k cc own) (hl : Cond.methodLink own i arraycopyName ∈ qW) (hsrc : ∀ H, (ks k).heap.size ≤ H.size → HR (kD k) (kDA k) (kHs k) mm H → va_T .byte b0 n0 (fun j => .int (f j)) (fun _ => False) (ks k) H) (ht : qty mm q = (2, 2, n1)) (h1 : ¬ sp < 0) (h2 : ¬ dp < 0) (h3 : ¬ n < 0) (h4 : sp.toNatClampNeg + n.toNatClampNeg ≤ n0) (h5 : dp.toNatClampNeg + n.toNatClampNeg ≤ n1) (hfit : ∀ j, j < n.toNatClampNeg → fits .byte (.int (f (sp.toNatClampNeg + j))) = true)
    (hframes : 1 ≤ (kR k).frames) (hlocals : scat st + (nativeFrameWords "java/lang/System" "arraycopy" 5 + 11) ≤ (kR k).locals) (hdg : decode cc pc = .ok (.invokestatic i, 3)) (h : GG k env st (sarr mm q (va_cpy f (qai mm q) sp.toNatClampNeg dp.toNatClampNeg n.toNatClampNeg)) (pc + 3) a b) : GG k env (.int n :: .int dp :: .ref q :: .int sp :: .ref b0 :: st) mm pc a b := by
  have nn : ∀ z : Int32, ¬ z < 0 → z.toInt = (z.toNatClampNeg : Int) := by
    intro z hz
    have hz0 : (0 : Int) ≤ z.toInt := by
      have := Int32.not_lt.mp hz
      simpa using Int32.le_iff_toInt_le.mp this
    show z.toInt = ((z.toInt.toNat : Nat) : Int)
    omega
  intro H locs ls z hR hl' hls T' hT X'
  obtain ⟨scr, hs1, hs2, hs3, hs4, -, hs5, -⟩ := hsrc H z hR
  have hc1 : H[q]? = some (vp_cell (kDA k 2) (n1, .inl (qai mm q))) := hR.arrP ht
  obtain ⟨hs6, k0, hk0, cm0, hkk0⟩ := hs2
  obtain ⟨-, k1, hk1, cm1, hkk1⟩ := (X.arr (t := 2) (by decide)).1 n1 (fun j => .int (qai mm q j))
  obtain ⟨vm', X'', step⟩ := X'.arraycopy X.1 X.2.2.2.1 (X.2.2.2.2.1 _ hl) (X.2.2.2.2.1 _ ay_nat) (X.2.2.2.2.1 _ ay_st) (X.2.2.2.2.1 _ ay_in) (src := b0) (dst := q) (cs := scr) (cd := vp_cell (kDA k 2) (n1, .inl (qai mm q))) (srcPos := sp) (destPos := dp) (n := n) (by rw [hT]; exact hs1) (by rw [hT]; exact hc1)
    hs6 (fun _ h => by cases h) hs3 (fun h => by cases h) hk0 hk1 hkk0 hkk1 (by simp [refKind, qaty]) h1 h2 h3
    (by rw [nn sp h1, nn n h3]; omega)
    (by rw [nn dp h2, nn n h3]; show ¬ _ > ((arrV (kDA k 2) n1 (fun j => .int (qai mm q j))).slots.size : Int); rw [arrV_size]; omega)
    (fun vm₁ _ i hi => by
      have e : scr.slots.getD (sp.toNatClampNeg + i) .null = .int (f (sp.toNatClampNeg + i)) := by
        rw [Array.getD_eq_getD_getElem?, hs5 _ (by omega)]
        rfl
      refine ⟨?_, ?_⟩
      · rw [e]
        exact hfit i hi
      · rw [e]
        exact trivial)
    (g := F0 (km k) pc ls (.int n :: .int dp :: .ref q :: .int sp :: .ref b0 :: st)) rfl (by rw [X.2.2.1]; exact hls.1) (rest := st) rfl (by rw [X.2.1]; exact hdg) hframes (by show 2 * 0 + scat st + _ ≤ _; omega)
  have e1 : copied scr (vp_cell (kDA k 2) (n1, .inl (qai mm q))) sp dp n = vp_cell (kDA k 2) (n1, .inl (va_cpy f (qai mm q) sp.toNatClampNeg dp.toNatClampNeg n.toNatClampNeg)) := va_copiedX (fun z => .int z) scr (kDA k 2) f (qai mm q) hs5 h4
  rw [e1] at X'' step
  have hlt : q < H.size := (Array.getElem?_eq_some_iff.mp hc1).1
  have hheap : ((T'.setVm vm').setCell q (vp_cell (kDA k 2) (n1, .inl (va_cpy f (qai mm q) sp.toNatClampNeg dp.toNatClampNeg n.toNatClampNeg)))).heap = H.setIfInBounds q (vp_cell (kDA k 2) (n1, .inl (va_cpy f (qai mm q) sp.toNatClampNeg dp.toNatClampNeg n.toNatClampNeg))) := by rw [← hT]; rfl
  have oq : ∀ p : Nat, p ≠ q → (H.setIfInBounds q (vp_cell (kDA k 2) (n1, .inl (va_cpy f (qai mm q) sp.toNatClampNeg dp.toNatClampNeg n.toNatClampNeg))))[p]? = H[p]? := fun p hp => by simp [Array.getElem?_setIfInBounds, Ne.symm hp]
  have hq : (kHs k).size ≤ q := hR.ours ht (by decide)
  obtain ⟨t, a1, b1⟩ := h _ _ ls (by simp; exact z) (hR.putA ht (by simp) oq (by simp [Array.getElem?_setIfInBounds, hlt])) (fun y hy => by
      rcases List.mem_append.mp hy with h | h
      · exact hl' y h
      · obtain ⟨w, -, hw⟩ := List.mem_map.mp h
        rw [← hw]
        exact hq) hls _ hheap X''
  exact ⟨t, step t a1, b1⟩
end T60
