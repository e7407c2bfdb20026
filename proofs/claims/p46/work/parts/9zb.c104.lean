/-! the script's places; the law's loop, its start; the claim -/
theorem dL_at_0 : decode cL_at 0 = .ok (.iload_n 1, 1) := by decide +kernel
theorem dL_at_1 : decode cL_at 1 = .ok (.aload_n 0, 1) := by decide +kernel
theorem dL_at_2 : decode cL_at 2 = .ok (.arraylength, 1) := by decide +kernel
theorem dL_at_3 : decode cL_at 3 = .ok (.if_icmp .ge 9, 3) := by decide +kernel
theorem dL_at_6 : decode cL_at 6 = .ok (.aload_n 0, 1) := by decide +kernel
theorem dL_at_7 : decode cL_at 7 = .ok (.iload_n 1, 1) := by decide +kernel
theorem dL_at_8 : decode cL_at 8 = .ok (.iaload, 1) := by decide +kernel
theorem dL_at_9 : decode cL_at 9 = .ok (.goto 12, 3) := by decide +kernel
theorem dL_at_12 : decode cL_at 12 = .ok (.ldc 7, 2) := by decide +kernel
theorem dL_at_14 : decode cL_at 14 = .ok (.iload_n 1, 1) := by decide +kernel
theorem dL_at_15 : decode cL_at 15 = .ok (.iconst 1, 1) := by decide +kernel
theorem dL_at_16 : decode cL_at 16 = .ok (.iadd, 1) := by decide +kernel
theorem dL_at_17 : decode cL_at 17 = .ok (.imul, 1) := by decide +kernel
theorem dL_at_18 : decode cL_at 18 = .ok (.ldc 8, 2) := by decide +kernel
theorem dL_at_20 : decode cL_at 20 = .ok (.iadd, 1) := by decide +kernel
theorem dL_at_21 : decode cL_at 21 = .ok (.ireturn, 1) := by decide +kernel
theorem dL_law_0 : decode cL_law 0 = .ok (.new 11, 3) := by decide +kernel
theorem dL_law_3 : decode cL_law 3 = .ok (.dup, 1) := by decide +kernel
theorem dL_law_4 : decode cL_law 4 = .ok (.invokespecial 283, 3) := by decide +kernel
theorem dL_law_7 : decode cL_law 7 = .ok (.astore_n 1, 1) := by decide +kernel
theorem dL_law_8 : decode cL_law 8 = .ok (.bipush 8, 2) := by decide +kernel
theorem dL_law_10 : decode cL_law 10 = .ok (.newarray .int, 2) := by decide +kernel
theorem dL_law_12 : decode cL_law 12 = .ok (.astore_n 2, 1) := by decide +kernel
theorem dL_law_13 : decode cL_law 13 = .ok (.iconst 5, 1) := by decide +kernel
theorem dL_law_14 : decode cL_law 14 = .ok (.newarray .int, 2) := by decide +kernel
theorem dL_law_16 : decode cL_law 16 = .ok (.astore_n 3, 1) := by decide +kernel
theorem dL_law_17 : decode cL_law 17 = .ok (.iconst 2, 1) := by decide +kernel
theorem dL_law_18 : decode cL_law 18 = .ok (.newarray .int, 2) := by decide +kernel
theorem dL_law_20 : decode cL_law 20 = .ok (.astore 4, 2) := by decide +kernel
theorem dL_law_22 : decode cL_law 22 = .ok (.aload_n 1, 1) := by decide +kernel
theorem dL_law_23 : decode cL_law 23 = .ok (.invokevirtual 205, 3) := by decide +kernel
theorem dL_law_26 : decode cL_law 26 = .ok (.ifCond .ne 46, 3) := by decide +kernel
theorem dL_law_29 : decode cL_law 29 = .ok (.aload_n 1, 1) := by decide +kernel
theorem dL_law_30 : decode cL_law 30 = .ok (.invokevirtual 209, 3) := by decide +kernel
theorem dL_law_33 : decode cL_law 33 = .ok (.ifCond .ne 39, 3) := by decide +kernel
theorem dL_law_36 : decode cL_law 36 = .ok (.aload_n 1, 1) := by decide +kernel
theorem dL_law_37 : decode cL_law 37 = .ok (.iconst 4, 1) := by decide +kernel
theorem dL_law_38 : decode cL_law 38 = .ok (.invokestatic 196, 3) := by decide +kernel
theorem dL_law_41 : decode cL_law 41 = .ok (.ifCond .ne 31, 3) := by decide +kernel
theorem dL_law_44 : decode cL_law 44 = .ok (.aload_n 1, 1) := by decide +kernel
theorem dL_law_45 : decode cL_law 45 = .ok (.iconst 0, 1) := by decide +kernel
theorem dL_law_46 : decode cL_law 46 = .ok (.iconst 0, 1) := by decide +kernel
theorem dL_law_47 : decode cL_law 47 = .ok (.invokestatic 201, 3) := by decide +kernel
theorem dL_law_50 : decode cL_law 50 = .ok (.ifCond .ne 22, 3) := by decide +kernel
theorem dL_law_53 : decode cL_law 53 = .ok (.aload_n 1, 1) := by decide +kernel
theorem dL_law_54 : decode cL_law 54 = .ok (.bipush 31, 2) := by decide +kernel
theorem dL_law_56 : decode cL_law 56 = .ok (.bipush (-48), 2) := by decide +kernel
theorem dL_law_58 : decode cL_law 58 = .ok (.bipush 48, 2) := by decide +kernel
theorem dL_law_60 : decode cL_law 60 = .ok (.invokestatic 192, 3) := by decide +kernel
theorem dL_law_63 : decode cL_law 63 = .ok (.bipush (-48), 2) := by decide +kernel
theorem dL_law_65 : decode cL_law 65 = .ok (.if_icmp .ne 7, 3) := by decide +kernel
theorem dL_law_68 : decode cL_law 68 = .ok (.iconst 1, 1) := by decide +kernel
theorem dL_law_69 : decode cL_law 69 = .ok (.goto 4, 3) := by decide +kernel
theorem dL_law_72 : decode cL_law 72 = .ok (.iconst 0, 1) := by decide +kernel
theorem dL_law_73 : decode cL_law 73 = .ok (.istore 5, 2) := by decide +kernel
theorem dL_law_75 : decode cL_law 75 = .ok (.iconst 0, 1) := by decide +kernel
theorem dL_law_76 : decode cL_law 76 = .ok (.istore 6, 2) := by decide +kernel
theorem dL_law_78 : decode cL_law 78 = .ok (.iload 6, 2) := by decide +kernel
theorem dL_law_80 : decode cL_law 80 = .ok (.sipush 150, 3) := by decide +kernel
theorem dL_law_83 : decode cL_law 83 = .ok (.if_icmp .ge 73, 3) := by decide +kernel
theorem dL_law_86 : decode cL_law 86 = .ok (.iload 5, 2) := by decide +kernel
theorem dL_law_88 : decode cL_law 88 = .ok (.ifCond .eq 68, 3) := by decide +kernel
theorem dL_law_91 : decode cL_law 91 = .ok (.aload_n 0, 1) := by decide +kernel
theorem dL_law_92 : decode cL_law 92 = .ok (.iconst 2, 1) := by decide +kernel
theorem dL_law_93 : decode cL_law 93 = .ok (.iload 6, 2) := by decide +kernel
theorem dL_law_95 : decode cL_law 95 = .ok (.imul, 1) := by decide +kernel
theorem dL_law_96 : decode cL_law 96 = .ok (.invokestatic 284, 3) := by decide +kernel
theorem dL_law_99 : decode cL_law 99 = .ok (.istore 7, 2) := by decide +kernel
theorem dL_law_101 : decode cL_law 101 = .ok (.aload_n 1, 1) := by decide +kernel
theorem dL_law_102 : decode cL_law 102 = .ok (.aload_n 2, 1) := by decide +kernel
theorem dL_law_103 : decode cL_law 103 = .ok (.aload_n 3, 1) := by decide +kernel
theorem dL_law_104 : decode cL_law 104 = .ok (.aload 4, 2) := by decide +kernel
theorem dL_law_106 : decode cL_law 106 = .ok (.iload 7, 2) := by decide +kernel
theorem dL_law_108 : decode cL_law 108 = .ok (.aload_n 0, 1) := by decide +kernel
theorem dL_law_109 : decode cL_law 109 = .ok (.iconst 2, 1) := by decide +kernel
theorem dL_law_110 : decode cL_law 110 = .ok (.iload 6, 2) := by decide +kernel
theorem dL_law_112 : decode cL_law 112 = .ok (.imul, 1) := by decide +kernel
theorem dL_law_113 : decode cL_law 113 = .ok (.iconst 1, 1) := by decide +kernel
theorem dL_law_114 : decode cL_law 114 = .ok (.iadd, 1) := by decide +kernel
theorem dL_law_115 : decode cL_law 115 = .ok (.invokestatic 284, 3) := by decide +kernel
theorem dL_law_118 : decode cL_law 118 = .ok (.invokestatic 288, 3) := by decide +kernel
theorem dL_law_121 : decode cL_law 121 = .ok (.istore 5, 2) := by decide +kernel
theorem dL_law_123 : decode cL_law 123 = .ok (.iload 5, 2) := by decide +kernel
theorem dL_law_125 : decode cL_law 125 = .ok (.ifCond .eq 25, 3) := by decide +kernel
theorem dL_law_128 : decode cL_law 128 = .ok (.iload 6, 2) := by decide +kernel
theorem dL_law_130 : decode cL_law 130 = .ok (.bipush 15, 2) := by decide +kernel
theorem dL_law_132 : decode cL_law 132 = .ok (.irem, 1) := by decide +kernel
theorem dL_law_133 : decode cL_law 133 = .ok (.bipush 14, 2) := by decide +kernel
theorem dL_law_135 : decode cL_law 135 = .ok (.if_icmp .ne 15, 3) := by decide +kernel
theorem dL_law_138 : decode cL_law 138 = .ok (.aload_n 1, 1) := by decide +kernel
theorem dL_law_139 : decode cL_law 139 = .ok (.aload_n 2, 1) := by decide +kernel
theorem dL_law_140 : decode cL_law 140 = .ok (.aload_n 3, 1) := by decide +kernel
theorem dL_law_141 : decode cL_law 141 = .ok (.aload 4, 2) := by decide +kernel
theorem dL_law_143 : decode cL_law 143 = .ok (.iload 7, 2) := by decide +kernel
theorem dL_law_145 : decode cL_law 145 = .ok (.invokestatic 291, 3) := by decide +kernel
theorem dL_law_148 : decode cL_law 148 = .ok (.istore 5, 2) := by decide +kernel
theorem dL_law_150 : decode cL_law 150 = .ok (.iinc 6 1, 3) := by decide +kernel
theorem dL_law_153 : decode cL_law 153 = .ok (.goto (-75), 3) := by decide +kernel
theorem dL_law_156 : decode cL_law 156 = .ok (.iload 5, 2) := by decide +kernel
theorem dL_law_158 : decode cL_law 158 = .ok (.ireturn, 1) := by decide +kernel
theorem kd_at_7 : Cond.constant RL 7 (I 1272050631) ∈ qW := (qW_at 148 (by decide +kernel) rfl)
theorem kd_at_8 : Cond.constant RL 8 (I 1847962065) ∈ qW := (qW_at 149 (by decide +kernel) rfl)
theorem lk_L_at : LK yL_at cL_at 2 (some .int) 2 := ⟨(qW_at 147 (by decide +kernel) rfl), (qW_at 28 (by decide +kernel) rfl), by decide, by decide, by decide +kernel⟩
theorem st_L_at : Cond.static yL_at ∈ qW := (qW_at 146 (by decide +kernel) rfl)
/-- what the script says at a place -/
def atv (L : Nat) (xs : Nat → Int32) (j : Int) : Int32 := if j < L then xs j.toNat else I 1272050631 * I (j + 1) + I 1847962065
def PcX (D : va_G) (DA : Nat → ClassId) (Hs : Heap) (av : List Value) (mm : QM) (sb L : Nat) (xs : Nat → Int32) : Array Value → State → Prop := fun v U => PcM D DA Hs av mm v U ∧ va_X sb L xs U Hs
theorem PcX.blind {D : va_G} {DA : Nat → ClassId} {Hs : Heap} {av : List Value} {mm : QM} {sb L : Nat} {xs : Nat → Int32} : FrameBlind (PcX D DA Hs av mm sb L xs) := by
  intro a U g mk h
  exact ⟨PcM.blind a U g mk h.1, va_X.moved (u := U) (U := U.calling g mk a) (State.WarmedH.refl U).alike h.2⟩
theorem E_L_at {sb L : Nat} {xs : Nat → Int32} {j : Int} (hL : L ≤ 260) (j0 : 0 ≤ j) (j1 : j < 300) (l : Launch) (D : va_G) (DA : Nat → ClassId) (Hs : Heap) (mm : QM) (R : RX) (htr : l.stackTraces = false) (hsb : sb < Hs.size) (hR9 : R (.ok (some (.int (atv L xs j)))) mm) : vx_Met l yL_at (.code yL_at cL_at 2 (some .int) :: qW) { frames := 0, cells := 0, slots := 0, locals := 0 } (PcX D DA Hs [.ref sb, .int (I j)] mm sb L xs) (QcE D DA Hs R) (XcE D DA Hs R) 0 0 (fun q => Hs.size ≤ q) := by
  refine vx_ofW (by decide) rfl ?_
  intro p e s m args below meth c s₁ B hml htab hP
  obtain ⟨⟨rfl, hR, hK⟩, hX⟩ := hP
  have hts : ∀ w ∈ qW, w.before [Value.ref sb, Value.int (I j)].toArray s = true := fun w hw => atoms_spec (ws := .code yL_at cL_at 2 (some .int) :: qW) B.pre w (List.mem_cons_of_mem _ hw)
  have hl := lv_entry [Value.ref sb, Value.int (I j)] (n := 2) (Nat.le_of_ble_eq_true rfl)
  rw [lg_entry_eq]
  have body : ∀ k : QC, CX k cL_at RL → CQE k R → (kmeth k).sig.returnType = some .int → va_X sb L xs (ks k) (kHs k) → sb < (kHs k).size → HO k → GG k [(0, .ref sb), (1, .int (I j))] [] mm 0 0 0 := by
    intro k X C hr hX hb2 ho
    have hX' : va_X sb L xs (ks k) (ks k).heap := hX.kept (ho sb hb2)
    have hb1 : sb < (ks k).heap.size := by
      obtain ⟨scr, h1, -⟩ := hX'
      exact (Array.getElem?_eq_some_iff.mp h1).1
    refine g_iload_n 1 X dL_at_0 rfl rfl ?_
    refine t_al 0 X dL_at_1 rfl rfl ?_
    intro H locs ls z hH hl hls
    refine va_slen (A := fun q => (kHs k).size ≤ q) X.1 X.2.1 hX' hb1 (by omega) (t_S ho z hH hl) dL_at_2 ?_
    rw [I_nat]
    refine (?_ : GG k [(0, .ref sb), (1, .int (I j))] [.int (I (L : Nat)), .int (I j)] mm 3 0 0) H locs ls z hH hl hls
    refine g_icmp_ge (tgt := 12) X dL_at_3 (by decide) ?_
    by_cases q : j < L
    · rw [if_neg (by rw [I_le (by omega) (by omega) (by omega) (by omega)]; omega)]
      have hv : atv L xs j = xs j.toNat := if_pos q
      rw [hv] at hR9
      refine t_al 0 X dL_at_6 rfl rfl ?_
      refine g_iload_n 1 X dL_at_7 rfl rfl ?_
      have hc : (I j).toNatClampNeg = j.toNat := clamp_I j0 (by omega)
      intro H locs ls z hH hl hls
      refine va_sld (A := fun q => (kHs k).size ≤ q) X.1 X.2.1 hX' hb1 (by omega) (t_S ho z hH hl) (fun q => ?_) dL_at_8 ?_
      · rcases q with q | q
        · rw [show (0 : Int32) = I 0 from rfl, I_lt (by omega) (by omega) (by omega) (by omega)] at q; omega
        · rw [hc] at q; omega
      rw [hc]
      refine (?_ : GG k [(0, .ref sb), (1, .int (I j))] [.int (xs j.toNat)] mm 9 0 0) H locs ls z hH hl hls
      refine g_goto (tgt := 21) X dL_at_9 (by decide) ?_
      exact e_iret X C hr rfl dL_at_21 (Nat.zero_le _) (Nat.zero_le _) hR9
    · rw [if_pos (by rw [I_le (by omega) (by omega) (by omega) (by omega)]; omega)]
      have hv : atv L xs j = I 1272050631 * I (j + 1) + I 1847962065 := if_neg q
      rw [hv] at hR9
      refine g_ldc X dL_at_12 kd_at_7 ?_
      refine g_iload_n 1 X dL_at_14 rfl rfl ?_
      refine g_iconst (v := I 1) X dL_at_15 rfl ?_
      refine g_iadd X dL_at_16 ?_
      rw [I_add]
      refine g_imul X dL_at_17 ?_
      refine g_ldc X dL_at_18 kd_at_8 ?_
      refine g_iadd X dL_at_20 ?_
      exact e_iret X C hr rfl dL_at_21 (Nat.zero_le _) (Nat.zero_le _) hR9
  exact body (p, l, e, _, s, m, [Value.ref sb, Value.int (I j)].toArray, below, meth, c, _, D, DA, Hs, 2) ⟨B.exec, B.bytes, hml, findClass_of_methodNamed B.named, hts, hK⟩ ⟨rfl, htab, B.notSynchronized, htr, hR.2.2.1⟩ B.returns hX hsb hR.2.2.1
    s.heap [] _ (Nat.le_refl _) hR (fun z hz => by cases hz) hl
/-- what holds all through the law -/
def LXX (k : QC) (sb L : Nat) (xs : Nat → Int32) : Prop := CX k cL_law RL ∧ kR k = room_1 ∧ knL k = 8 ∧ (kl k).stackTraces = false ∧ va_X sb L xs (ks k) (kHs k) ∧ sb < (kHs k).size ∧ L ≤ 260
theorem x_at {k : QC} {env : List (Nat × Value)} {st : List Value} {mm : QM} {pc a b sb L : Nat} {xs : Nat → Int32} {j : Int} (hL : LXX k sb L xs) (j0 : 0 ≤ j) (j1 : j < 300) (hst : scat st ≤ 8) (ha : a ≤ 600086) (hb : b ≤ 7301442) (hdg : decode cL_law pc = .ok (.invokestatic 284, 3)) (h : GG k env (.int (atv L xs j) :: st) mm (pc + 3) a b) : GG k env (.int (I j) :: .ref sb :: st) mm pc a b := by
  obtain ⟨X, hR, hN, htr, hX, hsb, hL2⟩ := hL
  have hf : a + 0 ≤ (kR k).cells ∧ b + 0 ≤ (kR k).slots := by rw [hR]; exact ⟨ha, hb⟩
  have hroom : 0 + 1 ≤ (kR k).frames ∧ 8 + (2 + 11) + 0 ≤ (kR k).locals := by rw [hR]; exact ⟨Nat.le_of_ble_eq_true rfl, Nat.le_of_ble_eq_true rfl⟩
  refine GG_runE (R := fun r m' => r = .ok (some (.int (atv L xs j))) ∧ m' = mm) (rest := st) (mc := 0) (ms := 0) (As := [Value.ref sb, Value.int (I j)].toArray) TH_F hf (fun H locs ls hR2 hls => ?_) (fun e m' q => by cases q.1) (fun v m' q => ?_)
  · exact vx_runS (As := [Value.ref sb, Value.int (I j)]) (g := F0 (km k) pc ls (.int (I j) :: .ref sb :: st)) X.fix (E_L_at hL2 j0 j1 (kl k) (kD k) (kDA k) (kHs k) mm _ htr hsb ⟨rfl, rfl⟩) ⟨callB_of 2 X.2.2.2.2.1 lk_L_at.good rfl rfl rfl (X.2.2.2.2.1 _ lk_L_at.2.1) (X.2.2.2.2.1 _ (qW_at 145 (by decide +kernel) rfl)) lk_L_at.2.2 hroom, X.2.2.2.2.1 _ st_L_at⟩
      ⟨PcX.blind, fun U hU hW => ⟨⟨rfl, by rw [hU]; exact hR2, KN.moved hW X.2.2.2.2.2⟩, va_X.moved hW.alike hX⟩⟩ rfl rfl hls.1 rfl (lv_room hst) hdg hf
  · obtain ⟨q1, q2⟩ := q
    cases q1
    subst q2
    exact h
abbrev lenv (sb sv : Nat) (i : Int) : List (Nat × Value) := [(6, .int (I i)), (5, .int (I 1)), (0, .ref sb), (1, .ref sv), (2, .ref (sv + 20)), (3, .ref (sv + 21)), (4, .ref (sv + 22))]
set_option maxRecDepth 100000 in
set_option maxHeartbeats 4000000 in
theorem law_step {k : QC} {sb L sv : Nat} {xs : Nat → Int32} (hL : LXX k sb L xs) {i a b : Nat} {S : LSt} {mm : QM} (hi : i < 150) (h : LJ S) (hm : LR sv S mm) (ht : zT S ≤ 480) (ha : a + 30000 ≤ 600086) (hb : b + 140000 ≤ 7301442) (hnext : ∀ S' mm', LJ S' → LR sv S' mm' → zT S' ≤ zT S + 2 → GG k (lenv sb sv ((i + 1 : Nat) : Int)) [] mm' 78 (a + 100 + (if i % 15 = 14 then 21609 else 0)) (b + 3474 + (if i % 15 = 14 then 130230 else 0))) : GG k (lenv sb sv (i : Nat)) [] mm 78 a b := by
  have X := hL.1
  have hR := hL.2.1
  have hN := hL.2.2.1
  have htr := hL.2.2.2.1
  refine g_iload 0 X dL_law_78 rfl ?_
  refine g_sipush (v := I 150) X dL_law_80 (by decide) ?_
  refine g_icmp_ge (tgt := 156) X dL_law_83 (by decide) ?_
  rw [if_neg (by rw [I_le (by omega) (by omega) (by omega) (by omega)]; omega)]
  refine g_iload 1 X dL_law_86 rfl ?_
  refine g_if_eq (tgt := 156) X dL_law_88 (by decide) ?_
  rw [if_neg (by decide)]
  refine t_al 2 X dL_law_91 rfl rfl ?_
  refine g_iconst (v := I 2) X dL_law_92 rfl ?_
  refine g_iload 0 X dL_law_93 rfl ?_
  refine g_imul X dL_law_95 ?_
  rw [I_mul]
  refine x_at (j := 2 * (i : Int)) hL (by omega) (by omega) (by decide) (by omega) (by omega) dL_law_96 ?_
  generalize atv L xs (2 * (i : Int)) = xv
  refine g_istore (env' := (7, .int xv) :: lenv sb sv (i : Nat)) X dL_law_99 (by rw [hN]; decide) rfl ?_
  refine t_al 4 X dL_law_101 rfl rfl ?_
  refine t_al 5 X dL_law_102 rfl rfl ?_
  refine t_al 6 X dL_law_103 rfl rfl ?_
  refine g_aload (r := some (sv + 22)) 7 X dL_law_104 rfl ?_
  refine g_iload 0 X dL_law_106 rfl ?_
  refine t_al 3 X dL_law_108 rfl rfl ?_
  refine g_iconst (v := I 2) X dL_law_109 rfl ?_
  refine g_iload 1 X dL_law_110 rfl ?_
  refine g_imul X dL_law_112 ?_
  rw [I_mul]
  refine g_iconst (v := I 1) X dL_law_113 rfl ?_
  refine g_iadd X dL_law_114 ?_
  rw [I_add]
  refine x_at (j := 2 * (i : Int) + 1) hL (by omega) (by omega) (Nat.le_of_ble_eq_true rfl) (by omega) (by omega) dL_law_115 ?_
  generalize atv L xs (2 * (i : Int) + 1) = yv
  obtain ⟨S1, e1, hJ1, ht1⟩ := val_acts (sv := sv) h ht xv yv
  refine k_callS (av := [.ref sv, .ref (sv + 20), .ref (sv + 21), .ref (sv + 22), .int xv, .int yv]) (st := []) X htr (M_L_acts sv xv yv) lk_L_acts st_L_acts (qW_at 888 (by decide +kernel) rfl) rfl (by rw [hR]; exact ⟨Nat.le_of_ble_eq_true rfl, Nat.le_of_ble_eq_true rfl⟩) (by decide) (by rw [hR]; exact ⟨(by show a + 100 ≤ 600086; omega), (by show b + 3474 ≤ 7301442; omega)⟩) dL_law_118 ?_ mm hm
  unfold lwp
  rw [e1]
  intro m1 hm1
  refine g_istore (env' := [(5, .int (I 1)), (7, .int xv), (6, .int (I (i : Nat))), (0, .ref sb), (1, .ref sv), (2, .ref (sv + 20)), (3, .ref (sv + 21)), (4, .ref (sv + 22))]) X dL_law_121 (by rw [hN]; decide) rfl ?_
  refine g_iload 0 X dL_law_123 rfl ?_
  refine g_if_eq (tgt := 150) X dL_law_125 (by decide) ?_
  rw [if_neg (by decide)]
  refine g_iload 2 X dL_law_128 rfl ?_
  refine g_bipush (v := I 15) X dL_law_130 (by decide) ?_
  refine g_irem X dL_law_132 (by decide) ?_
  rw [I_div (by omega) (by omega) (by decide) (by decide), I_mul, I_sub]
  refine g_bipush (v := I 14) X dL_law_133 (by decide) ?_
  refine g_icmp_ne (tgt := 150) X dL_law_135 (by decide) ?_
  have fin : ∀ S2 m2 a2 b2, LJ S2 → LR sv S2 m2 → zT S2 ≤ zT S + 2 → a2 ≤ a + 100 + (if i % 15 = 14 then 21609 else 0) → b2 ≤ b + 3474 + (if i % 15 = 14 then 130230 else 0) → GG k [(5, .int (I 1)), (7, .int xv), (6, .int (I (i : Nat))), (0, .ref sb), (1, .ref sv), (2, .ref (sv + 20)), (3, .ref (sv + 21)), (4, .ref (sv + 22))] [] m2 150 a2 b2 := by
    intro S2 m2 a2 b2 h2 hm2 ht2 ha2 hb2
    refine g_iinc (v := I ((i + 1 : Nat) : Int)) (env' := [(6, .int (I ((i + 1 : Nat) : Int))), (5, .int (I 1)), (7, .int xv), (0, .ref sb), (1, .ref sv), (2, .ref (sv + 20)), (3, .ref (sv + 21)), (4, .ref (sv + 22))]) 2 X dL_law_150 rfl ((I_add _ 1).trans (congrArg I (by omega))) (by rw [hN]; decide) rfl ?_
    refine g_goto (tgt := 78) X dL_law_153 (by decide) ?_
    exact GG_sub [0, 1, 3, 4, 5, 6, 7] rfl (GG_widen ha2 hb2 (hnext S2 m2 h2 hm2 ht2))
  have erem : I ((i : Nat) - (i : Nat) / 15 * 15) = I ((i % 15 : Nat) : Int) := congrArg I (by omega)
  by_cases c : i % 15 = 14
  · rw [if_neg (by rw [I_inj (by omega) (by omega) (by omega) (by omega)]; omega)]
    refine t_al 4 X dL_law_138 rfl rfl ?_
    refine t_al 5 X dL_law_139 rfl rfl ?_
    refine t_al 6 X dL_law_140 rfl rfl ?_
    refine g_aload (r := some (sv + 22)) 7 X dL_law_141 rfl ?_
    refine g_iload 1 X dL_law_143 rfl ?_
    refine k_callS (av := [.ref sv, .ref (sv + 20), .ref (sv + 21), .ref (sv + 22), .int xv]) (st := []) X htr (M_L_isSo sv xv) lk_L_isSo st_L_isSo (qW_at 364 (by decide +kernel) rfl) rfl (by rw [hR]; exact ⟨Nat.le_of_ble_eq_true rfl, Nat.le_of_ble_eq_true rfl⟩) (by decide) (by rw [hR]; exact ⟨(by show a + 100 + 21609 ≤ 600086; omega), (by show b + 3474 + 130230 ≤ 7301442; omega)⟩) dL_law_145 ?_ m1 hm1
    unfold lwp
    rw [val_isSo hJ1 xv]
    intro m2 hm2
    refine g_istore (env' := [(5, .int (I 1)), (7, .int xv), (6, .int (I (i : Nat))), (0, .ref sb), (1, .ref sv), (2, .ref (sv + 20)), (3, .ref (sv + 21)), (4, .ref (sv + 22))]) X dL_law_148 (by rw [hN]; decide) rfl ?_
    exact fin S1 m2 _ _ hJ1 hm2 ht1 (by rw [if_pos c]; exact Nat.le_refl _) (by rw [if_pos c]; exact Nat.le_refl _)
  · rw [if_pos (by rw [I_inj (by omega) (by omega) (by omega) (by omega)]; omega)]
    exact fin S1 m1 _ _ hJ1 hm1 ht1 (by rw [if_neg c]; exact Nat.le_refl _) (by rw [if_neg c]; exact Nat.le_refl _)
set_option maxRecDepth 100000 in
theorem law_loop {k : QC} {sb L sv : Nat} {xs : Nat → Int32} (hL : LXX k sb L xs) (hexit : ∀ env mm a b, a ≤ 600086 → b ≤ 7301442 → GG k env [.int (I 1)] mm 158 a b) : ∀ (n i : Nat) (S : LSt) (mm : QM), n + i = 150 → LJ S → LR sv S mm → zT S ≤ 2 * i → GG k (lenv sb sv (i : Nat)) [] mm 78 (300000 + 100 * i + 21609 * (i / 15)) (3000000 + 3474 * i + 130230 * (i / 15)) := by
  have X := hL.1
  intro n
  induction n with
  | zero =>
    intro i S mm h1 h hm ht
    refine g_iload 0 X dL_law_78 rfl ?_
    refine g_sipush (v := I 150) X dL_law_80 (by decide) ?_
    refine g_icmp_ge (tgt := 156) X dL_law_83 (by decide) ?_
    rw [if_pos (by rw [I_le (by omega) (by omega) (by omega) (by omega)]; omega)]
    refine g_iload 1 X dL_law_156 rfl ?_
    exact hexit _ _ _ _ (by omega) (by omega)
  | succ n ih =>
    intro i S mm h1 h hm ht
    refine law_step hL (by omega) h hm (by omega) (by omega) (by omega) (fun S' mm' h' hm' ht' => ?_)
    have q := ih (i + 1) S' mm' (by omega) h' hm' (by omega)
    refine GG_widen ?_ ?_ q
    · by_cases c : i % 15 = 14
      · rw [if_pos c]; omega
      · rw [if_neg c]; omega
    · by_cases c : i % 15 = 14
      · rw [if_pos c]; omega
      · rw [if_neg c]; omega
/-- the law's state at its start -/
def L00 : LSt := (S00, fun _ => 0, fun _ => 0, fun _ => 0, 0)
theorem LJ.start : LJ L00 := by
  refine ⟨⟨SI.start, ⟨fun k k0 k1 _ => absurd k1 (by show ¬ k < 0; omega), fun k k0 k1 _ => absurd k1 (by show ¬ k < 0; omega), fun v d v0 v1 _ _ => absurd v1 (by show ¬ v < 0; omega), fun k k0 k1 _ => absurd k1 (by show ¬ k < 0; omega)⟩, by decide⟩, fun i i0 i1 => absurd i1 (by show ¬ i < 0; omega), fun p p0 p1 => ?_, rfl, rfl⟩
  show (0 : Int32) = I (ma S00 27 p)
  rw [s0_a (by decide) (by decide)]; rfl
theorem ff00 : v_firstFree S00 31 (-48) 48 = -48 := by
  unfold v_firstFree
  rw [if_pos (by decide)]
  refine ffO_eq ⟨Int.le_refl _, fun x x0 x1 => ?_, fun w w0 w1 => by omega⟩
  cases q : bsy S00 31 (x + 48)
  · rfl
  · obtain ⟨p, -, -, q3⟩ := (bsy_rk (people := 31) (w := x) SI.start.wr).mp q
    have e : rkM S00 p x (mf S00 3).toNat = 0 := rfl
    rw [e] at q3
    exact absurd q3 (by decide)
/-- a memory that holds nothing yet -/
def qm0 (n : Nat) : QM := (fun _ => (0, 0, 0), fun _ _ => 0, fun _ _ => 0, fun _ _ => none, fun _ _ => 0, fun _ _ => 0, fun _ _ => none, n)
set_option maxRecDepth 100000 in
set_option maxHeartbeats 4000000 in
theorem law_go {k : QC} {sb L : Nat} {xs : Nat → Int32} (hL : LXX k sb L xs) (hexit : ∀ env mm a b, a ≤ 600086 → b ≤ 7301442 → GG k env [.int (I 1)] mm 158 a b) : GG k [(0, .ref sb)] [] (qm0 (kHs k).size) 0 0 0 := by
  have X := hL.1
  have hR := hL.2.1
  have hN := hL.2.2.1
  have htr := hL.2.2.2.1
  have hT : TH k (fun _ _ => False) := TH_F
  refine g_new (c := 7) tyX6 X rfl inW6 tyX6_ok (qW_at 55 (by decide +kernel) rfl) (qW_at 56 (by decide +kernel) rfl) (qW_at 29 (by decide +kernel) rfl) (by intro j hj; have h : ∀ j, j < 9 → defaultValue (tyX6 j) = (if qk 7 j = 0 then .int 0 else if qk 7 j = 1 then .long 0 else .null) := (by intro j hj; rcases (by omega : j = 0 ∨ j = 1 ∨ j = 2 ∨ j = 3 ∨ j = 4 ∨ j = 5 ∨ j = 6 ∨ j = 7 ∨ j = 8) with rfl | rfl | rfl | rfl | rfl | rfl | rfl | rfl | rfl <;> rfl); exact h j hj) (by rw [hR]; exact Nat.le_of_ble_eq_true rfl) (by rw [hR]; exact Nat.le_of_ble_eq_true rfl) dL_law_0 ?_
  have hsv : qtop (qm0 (kHs k).size) = (kHs k).size := rfl
  rw [hsv]
  obtain ⟨sv, hsv'⟩ : ∃ sv, sv = (kHs k).size := ⟨_, rfl⟩
  rw [← hsv']
  have ht0 : qty (qnew (qm0 sv) 7) sv = (1, 7, 0) := va_up_same _ _ _
  have hq0 : qtop (qnew (qm0 sv) 7) = sv + 1 := rfl
  obtain ⟨A0, M0, e0, pA, pM⟩ := c_sinit hq0 ht0
  refine t_dup X dL_law_3 ?_
  refine g_callI (q := sv) (av := []) (x := F_X6_init sv) X hT htr (M_X6_init sv) lk_X6_init im_X6_init rfl (qW_at 57 (by decide +kernel) rfl) rfl (by rw [hR]; exact ⟨Nat.le_of_ble_eq_true rfl, Nat.le_of_ble_eq_true rfl⟩) (by exact Nat.le_of_ble_eq_true rfl) (by rw [hR]; exact ⟨Nat.le_of_ble_eq_true rfl, Nat.le_of_ble_eq_true rfl⟩) dL_law_4 ?_
  unfold qwp
  rw [e0]
  show GG k _ [.ref sv] M0 _ _ _
  have hM0 : qtop M0 = sv + 20 := pM.1
  refine t_as (env' := [(1, .ref sv), (0, .ref sb)]) X dL_law_7 rfl (by rw [hN]; decide) rfl ?_
  refine g_bipush (v := I 8) X dL_law_8 (by decide) ?_
  refine g_newi0 8 X (qW_at 89 (by decide +kernel) rfl) (by decide) (by decide) (by rw [hR]; exact Nat.le_of_ble_eq_true rfl) (by rw [hR]; exact Nat.le_of_ble_eq_true rfl) dL_law_10 ?_
  rw [show (I 8).toNatClampNeg = 8 from by decide, hM0]
  refine t_as (env' := [(2, .ref (sv + 20)), (1, .ref sv), (0, .ref sb)]) X dL_law_12 rfl (by rw [hN]; decide) rfl ?_
  refine g_iconst (v := I 5) X dL_law_13 rfl ?_
  refine g_newi0 5 X (qW_at 89 (by decide +kernel) rfl) (by decide) (by decide) (by rw [hR]; exact Nat.le_of_ble_eq_true rfl) (by rw [hR]; exact Nat.le_of_ble_eq_true rfl) dL_law_14 ?_
  rw [show (I 5).toNatClampNeg = 5 from by decide, show qtop (qnewi M0 0 8 (fun _ => 0)) = sv + 21 from congrArg (· + 1) hM0]
  refine t_as (env' := [(3, .ref (sv + 21)), (2, .ref (sv + 20)), (1, .ref sv), (0, .ref sb)]) X dL_law_16 rfl (by rw [hN]; decide) rfl ?_
  refine g_iconst (v := I 2) X dL_law_17 rfl ?_
  refine g_newi0 2 X (qW_at 89 (by decide +kernel) rfl) (by decide) (by decide) (by rw [hR]; exact Nat.le_of_ble_eq_true rfl) (by rw [hR]; exact Nat.le_of_ble_eq_true rfl) dL_law_18 ?_
  have hq2 : qtop (qnewi (qnewi M0 0 8 (fun _ => 0)) 0 5 (fun _ => 0)) = sv + 22 := congrArg (· + 2) hM0
  rw [show (I 2).toNatClampNeg = 2 from by decide, hq2]
  refine g_astore (r := some (sv + 22)) (env' := [(4, .ref (sv + 22)), (3, .ref (sv + 21)), (2, .ref (sv + 20)), (1, .ref sv), (0, .ref sb)]) X dL_law_20 (by rw [hN]; decide) rfl ?_
  have g2 : GROW M0 (qnewi (qnewi (qnewi M0 0 8 (fun _ => 0)) 0 5 (fun _ => 0)) 0 2 (fun _ => 0)) := (((GROW.refl M0).qnewi).qnewi).qnewi
  have hq1 : qtop (qnewi M0 0 8 (fun _ => 0)) = sv + 21 := congrArg (· + 1) hM0
  obtain ⟨M3, hM3⟩ : ∃ M3, M3 = qnewi (qnewi (qnewi M0 0 8 (fun _ => 0)) 0 5 (fun _ => 0)) 0 2 (fun _ => 0) := ⟨_, rfl⟩
  have hC : CR sv (fun _ => 0, fun _ => 0, fun _ => 0, fun _ => 0, fun _ => 0) S00 M3 := CR.start hq0 ht0 (va_up_same _ _ _) (va_up_same _ _ _) (va_up_same _ _ _) pA pM (by rw [hM3]; exact g2) (by rw [hM3]; show sv + 23 ≤ qtop (qnewi (qnewi M0 0 8 (fun _ => 0)) 0 5 (fun _ => 0)) + 1; rw [hq2]; exact Nat.le_refl _)
  have tN : qty M3 (sv + 20) = (2, 0, 8) ∧ qai M3 (sv + 20) = fun _ => 0 := by
    rw [hM3]
    constructor
    · show va_up (va_up (va_up M0.1 (qtop M0) (2, 0, 8)) (qtop (qnewi M0 0 8 (fun _ => 0))) (2, 0, 5)) (qtop (qnewi (qnewi M0 0 8 (fun _ => 0)) 0 5 (fun _ => 0))) (2, 0, 2) (sv + 20) = _
      rw [hq2, hq1, hM0, va_up_diff _ _ (by omega), va_up_diff _ _ (by omega), va_up_same]
    · show va_up (va_up (va_up M0.2.2.2.2.1 (qtop M0) (fun _ => 0)) (qtop (qnewi M0 0 8 (fun _ => 0))) (fun _ => 0)) (qtop (qnewi (qnewi M0 0 8 (fun _ => 0)) 0 5 (fun _ => 0))) (fun _ => 0) (sv + 20) = _
      rw [hq2, hq1, hM0, va_up_diff _ _ (by omega), va_up_diff _ _ (by omega), va_up_same]
  have tK : qty M3 (sv + 21) = (2, 0, 5) ∧ qai M3 (sv + 21) = fun _ => 0 := by
    rw [hM3]
    constructor
    · show va_up (va_up (va_up M0.1 (qtop M0) (2, 0, 8)) (qtop (qnewi M0 0 8 (fun _ => 0))) (2, 0, 5)) (qtop (qnewi (qnewi M0 0 8 (fun _ => 0)) 0 5 (fun _ => 0))) (2, 0, 2) (sv + 21) = _
      rw [hq2, hq1, va_up_diff _ _ (by omega), va_up_same]
    · show va_up (va_up (va_up M0.2.2.2.2.1 (qtop M0) (fun _ => 0)) (qtop (qnewi M0 0 8 (fun _ => 0))) (fun _ => 0)) (qtop (qnewi (qnewi M0 0 8 (fun _ => 0)) 0 5 (fun _ => 0))) (fun _ => 0) (sv + 21) = _
      rw [hq2, hq1, va_up_diff _ _ (by omega), va_up_same]
  have tG : qty M3 (sv + 22) = (2, 0, 2) ∧ qai M3 (sv + 22) = fun _ => 0 := by
    rw [hM3]
    constructor
    · show va_up (va_up (va_up M0.1 (qtop M0) (2, 0, 8)) (qtop (qnewi M0 0 8 (fun _ => 0))) (2, 0, 5)) (qtop (qnewi (qnewi M0 0 8 (fun _ => 0)) 0 5 (fun _ => 0))) (2, 0, 2) (sv + 22) = _
      rw [hq2, va_up_same]
    · show va_up (va_up (va_up M0.2.2.2.2.1 (qtop M0) (fun _ => 0)) (qtop (qnewi M0 0 8 (fun _ => 0))) (fun _ => 0)) (qtop (qnewi (qnewi M0 0 8 (fun _ => 0)) 0 5 (fun _ => 0))) (fun _ => 0) (sv + 22) = _
      rw [hq2, va_up_same]
  have hm : LR sv L00 M3 := ⟨⟨_, hC⟩, SI.start, tN, tK, tG⟩
  rw [← hM3]
  clear hM3 tN tK tG hC g2 pA pM e0
  refine t_al 3 X dL_law_22 rfl rfl ?_
  refine k_callQ (st := []) X htr (M_X6_meetings sv) (fun G S m hC => q_meetings hC) lk_X6_meetings im_X6_meetings se_X6_meetings (qW_at 141 (by decide +kernel) rfl) (by rw [hR]; exact ⟨Nat.le_of_ble_eq_true rfl, Nat.le_of_ble_eq_true rfl⟩) (by decide) (by rw [hR]; exact ⟨Nat.le_of_ble_eq_true rfl, Nat.le_of_ble_eq_true rfl⟩) dL_law_23 ?_ M3 hm
  show GL sv k _ [.int (I (mf S00 3))] L00 _ _ _
  rw [s0_f]
  intro m1 hm1
  refine g_if_ne (tgt := 72) X dL_law_26 (by decide) ?_
  rw [if_neg (by decide)]
  refine t_al 3 X dL_law_29 rfl rfl ?_
  refine k_callQ (st := []) X htr (M_X6_messages sv) (fun G S m hC => q_messages hC) lk_X6_messages im_X6_messages se_X6_messages (qW_at 137 (by decide +kernel) rfl) (by rw [hR]; exact ⟨Nat.le_of_ble_eq_true rfl, Nat.le_of_ble_eq_true rfl⟩) (by decide) (by rw [hR]; exact ⟨Nat.le_of_ble_eq_true rfl, Nat.le_of_ble_eq_true rfl⟩) dL_law_30 ?_ m1 hm1
  show GL sv k _ [.int (I (mf S00 29))] L00 _ _ _
  rw [s0_f]
  intro m2 hm2
  refine g_if_ne (tgt := 72) X dL_law_33 (by decide) ?_
  rw [if_neg (by decide)]
  refine t_al 3 X dL_law_36 rfl rfl ?_
  refine g_iconst (v := I 4) X dL_law_37 rfl ?_
  refine k_callH (av := [.ref sv, .int (I 4)]) (st := []) X htr (E_L_mark sv (I 4)) lkh_mark stl_mark (qW_at 298 (by decide +kernel) rfl) rfl (by rw [hR]; exact ⟨Nat.le_of_ble_eq_true rfl, Nat.le_of_ble_eq_true rfl⟩) (by decide) (by rw [hR]; exact ⟨Nat.le_of_ble_eq_true rfl, Nat.le_of_ble_eq_true rfl⟩) dL_law_38 ?_ m2 hm2
  unfold lwp
  rw [ea_mark (by decide) (by decide), show v_mark (zS L00) 4 = 0 from (rv_ok rfl rfl rfl).trans (s0_a (by decide) (by decide))]
  intro m3 hm3
  refine g_if_ne (tgt := 72) X dL_law_41 (by decide) ?_
  rw [if_neg (by decide)]
  refine t_al 3 X dL_law_44 rfl rfl ?_
  refine g_iconst (v := I 0) X dL_law_45 rfl ?_
  refine g_iconst (v := I 0) X dL_law_46 rfl ?_
  refine k_callH (av := [.ref sv, .int (I 0), .int (I 0)]) (st := []) X htr (E_L_changes sv (I 0) (I 0)) lkh_changes stl_changes (qW_at 325 (by decide +kernel) rfl) rfl (by rw [hR]; exact ⟨Nat.le_of_ble_eq_true rfl, Nat.le_of_ble_eq_true rfl⟩) (by decide) (by rw [hR]; exact ⟨Nat.le_of_ble_eq_true rfl, Nat.le_of_ble_eq_true rfl⟩) dL_law_47 ?_ m3 hm3
  unfold lwp
  have g1 : gMk S00 0 0 = true := by
    unfold gMk
    rw [s0_a (by decide) (by decide)]; rfl
  have g2 : gFl S00 0 0 = true := by
    unfold gFl
    rw [g1, s0_a (by decide) (by decide)]; rfl
  rw [ea_changes (by decide) (by decide) (by decide) (by decide), show v_changes (zS L00) 0 0 = 0 from (rv_ok rfl g1 g2).trans rfl]
  intro m4 hm4
  refine g_if_ne (tgt := 72) X dL_law_50 (by decide) ?_
  rw [if_neg (by decide)]
  refine t_al 3 X dL_law_53 rfl rfl ?_
  refine g_bipush (v := I 31) X dL_law_54 (by decide) ?_
  refine g_bipush (v := I (-48)) X dL_law_56 (by decide) ?_
  refine g_bipush (v := I 48) X dL_law_58 (by decide) ?_
  refine k_callH (av := [.ref sv, .int (I 31), .int (I (-48)), .int (I 48)]) (st := []) X htr (E_L_firstFree sv (I 31) (I (-48)) (I 48)) lkh_firstFree stl_firstFree (qW_at 150 (by decide +kernel) rfl) rfl (by rw [hR]; exact ⟨Nat.le_of_ble_eq_true rfl, Nat.le_of_ble_eq_true rfl⟩) (by decide) (by rw [hR]; exact ⟨Nat.le_of_ble_eq_true rfl, Nat.le_of_ble_eq_true rfl⟩) dL_law_60 ?_ m4 hm4
  unfold lwp
  rw [ea_firstFree (by decide) (by decide) (by decide) (by decide) (by decide) (by decide), show v_firstFree (zS L00) 31 (-48) 48 = -48 from ff00]
  intro m5 hm5
  refine g_bipush (v := I (-48)) X dL_law_63 (by decide) ?_
  refine g_icmp_ne (tgt := 72) X dL_law_65 (by decide) ?_
  rw [if_neg (by decide)]
  refine g_iconst (v := I 1) X dL_law_68 rfl ?_
  refine g_goto (tgt := 73) X dL_law_69 (by decide) ?_
  refine g_istore (env' := [(5, .int (I 1)), (4, .ref (sv + 22)), (3, .ref (sv + 21)), (2, .ref (sv + 20)), (1, .ref sv), (0, .ref sb)]) X dL_law_73 (by rw [hN]; decide) rfl ?_
  refine g_iconst (v := I 0) X dL_law_75 rfl ?_
  refine g_istore (env' := [(6, .int (I 0)), (5, .int (I 1)), (4, .ref (sv + 22)), (3, .ref (sv + 21)), (2, .ref (sv + 20)), (1, .ref sv), (0, .ref sb)]) X dL_law_76 (by rw [hN]; decide) rfl ?_
  exact GG_sub [0, 1, 6, 5, 4, 3, 2] rfl (GG_widen (by decide) (by decide) (law_loop hL hexit 150 0 L00 m5 (by decide) LJ.start hm5 (by decide)))
set_option maxRecDepth 100000 in
set_option maxHeartbeats 4000000 in
theorem whole_start {p : Program} {e : Env} {s : State} {m : MethodId} {below : List Frame} {meth : Method} {c : Code} (l : Launch) (hflags : l.flags = flags0) {b L : Nat} {xs : Nat → Int32} (hL : L ≤ 260) (C0 : lw_At p s m meth c b L xs) : W p l e room_1 s m #[Value.ref b] below meth c s.heap [] 0 0 (lw_Z below #[Value.ref b] s) (entryFrame m ([Value.ref b] : List Value).toArray 8) := by
  obtain ⟨hx, hb, hr, hml, hown, hts, hX, hbl, hlocks, hgv⟩ := C0
  obtain ⟨D, DA, hKN⟩ := kn_start hts hgv
  have htr : l.stackTraces = false := by
    unfold Launch.stackTraces
    rw [hflags]; rfl
  let k : QC := (p, l, e, room_1, s, m, #[Value.ref b], below, meth, c, lw_Z below #[Value.ref b] s, D, DA, s.heap, 8)
  have hXX : CX k cL_law RL := ⟨hx, hb, hml, hown, fun w hw => hts w (List.mem_filter.mp hw).1, hKN⟩
  have hLX : LXX k b L xs := ⟨hXX, rfl, rfl, htr, hX, hbl, hL⟩
  have hexit : ∀ env mm a b', a ≤ 600086 → b' ≤ 7301442 → GG k env [.int (I 1)] mm 158 a b' := by
    intro env mm a b' ha hb'
    intro H locs ls z hH hl hls
    exact W.forget (locs := []) (L := locs) (fun q hq => hl q hq) (W.widen ha hb' (lw_ret hx hb hr hlocks dL_law_158))
  have hl := lv_entry ([.ref b]) (n := 8) (Nat.le_of_ble_eq_true rfl)
  rw [lg_entry_eq]
  exact law_go hLX hexit s.heap [] _ (Nat.le_refl _) ⟨Nat.le_refl _, rfl, fun _ _ => rfl, fun a ha => absurd rfl ha⟩ (fun z hz => by cases hz) hl
-- ===== YOUR PART ENDS =====
set_option maxHeartbeats 4000000 in
theorem lw_walk (l : Launch) (hflags : l.flags = flags0) (b : Addr) (xs : List Int32) : MetFree l x (headSpec (Jvm.Cond.code x code maxLocals ret :: tables_1) room_1) (lw_P b xs) (fun _ _ _ _ _ => True) lw_Q := by
  refine MetFree.of_bodyS (code := code) (maxLocals := maxLocals) (ret := ret) (by decide) ?_ ?_
  · intro args s m h hn
    obtain ⟨meth, c, h1, h2, h3, h4, h5, h6, -, -⟩ := Cond.code_spec hn (atoms_spec (ws := Jvm.Cond.code x code maxLocals ret :: tables_1) h _ List.mem_cons_self)
    exact ⟨meth, c, h1, h2, h3, h4, h5, h6⟩
  · intro p e s m args below meth c s₁ B hml0 hP _
    obtain ⟨rfl, hx, hbd, hgv⟩ := hP
    obtain ⟨scr, harrAt, hlist, hof, hsmall⟩ := hx
    obtain ⟨hcb, hkn, -, -⟩ := State.arrayAt?_spec harrAt
    have hown : s.vm.findClass R_law = some m.cls := findClass_of_methodNamed B.named
    have hts0 : ∀ c ∈ (Jvm.Cond.code x code maxLocals ret :: tables_1), c.before #[Value.ref b] s = true := atoms_spec (ws := Jvm.Cond.code x code maxLocals ret :: tables_1) B.pre
    have hts : ∀ w ∈ lw_tbl, w.before #[Value.ref b] s = true := k2_hts_sels lw_privs (fun w hw => hts0 w (List.mem_cons_of_mem _ hw)) lw_privs_ok
    have hml : c.maxLocals = 8 := B.maxLocals_eq (hts0 _ List.mem_cons_self)
    have X₀ : Stand p l e room_1 s m #[Value.ref b] below meth c s₁ [] 0 0 := Stand.of_body B
    have hh0 : s₁.heap = s.heap := by rw [B.state]; rfl
    have hsz : scr.slots.size = xs.length := by rw [← Array.length_toList, hlist, List.length_map]
    have hval : ∀ j : Nat, j < xs.length → scr.slots[j]? = some (.int (xs.getD j 0)) := fun j hj => by
      rw [← Array.getElem?_toList, hlist]
      simp [hj]
    have hbl : b < s.heap.size := (Array.getElem?_eq_some_iff.mp hcb).1
    have hX : va_X b xs.length (fun j => xs.getD j 0) s s.heap := ⟨scr, hcb, hof, hkn, hsz, hval⟩
    have K : W p l e room_1 s m #[Value.ref b] below meth c s₁.heap [] 0 0 (lw_Z below #[Value.ref b] s) (entryFrame m ([Value.ref b] : List Value).toArray 8) := by
      rw [hh0]
      exact whole_start l hflags hbd ⟨B.exec, B.bytes, B.returns, hml, hown, hts, hX, hbl, B.notSynchronized, hgv⟩
    obtain ⟨t, a1, o, b1, b2, b3⟩ := K s₁ rfl X₀
    exact ⟨t, o, a1, b1, b2, b3⟩
theorem lw_pre_spec {args : Array Value} {s : State} (h : (Jvm.Cond.and given_1 narrow_1).before args s = true) (hr : rest_1_c.before args s = true) : ∃ (b : Addr) (xs : List Int32), lw_P b xs args s := by
  have hs := flat_of_before _ h
  have hq := flat_of_before _ hr
  have hc : (Cond.count 1).before args s = true := hs _ (by decide +kernel)
  have harr : (Cond.arrayOf (.arg 0) .int).before args s = true := hs _ (by decide +kernel)
  have hle : (Cond.le (.length (.arg 0)) (.int 260)).before args s = true := hs _ (by decide +kernel)
  have hlen : (Cond.isInt (.length (.arg 0))).before args s = true := hq _ (by decide +kernel)
  have hall : (Cond.all (.arg 0) (.isInt (.elem (.arg 0) (.index 0)))).before args s = true := hq _ (by decide +kernel)
  obtain ⟨b, xs, hb, hx⟩ := State.ints_of_pre rfl harr hlen hall
  have hsm : xs.length < 2 ^ 31 := hx.choose_spec.2.2.2
  have hev : (Term.length (.arg 0)).eval args s none [] s = some (.int xs.length.toInt32) := hx.length_eval hb
  have hv := Cond.le_ints hev (show (Term.int 260).eval args s none [] s = some (.int 260) from rfl)
  have hd : xs.length.toInt32 ≤ 260 := by
    simpa [Cond.before, Cond.holds, hv] using hle
  have hN : xs.length ≤ 260 := (Int32.ofNat_le_ofNat hsm (by decide)).mp (show Int32.ofNat xs.length ≤ Int32.ofNat 260 from hd)
  exact ⟨b, xs, Cond.one_arg hc (show args[0]? = some (.ref b) from hb), hx, hN, h⟩
theorem lw_comes (l : Launch) (hflags : l.flags = flags0) : Comes l x (Jvm.Cond.code x code maxLocals ret :: tables_1) room_1 (fun tb e args s => Calls_1 tb e args s ∧ rest_1 tb e args s ∧ Pre_1 tb e args s)
    (fun _ _ args s o t => lw_Q args s o t) := by
  intro p e ha hc hk s m args below hf hfit hheap happ hpre
  obtain ⟨b, xs, hP⟩ := lw_pre_spec hpre.2.2 hpre.2.1
  obtain ⟨k, o, h1, h2, h3, hQ⟩ := lw_walk l hflags b xs p e ha hc hk s m args below hf ((Spec.applies_iff_loose hf).mp happ).1 hP trivial
  exact ⟨k, o, h1, h2, h3, hQ⟩
theorem lw_frame {s t : State} {o : Outcome} {args : Array Value} (h : Framed s o t [] 600086 7301442) :
    Framed s o t (fieldLocs frame_1_writes args s ++ arrayLocs frame_1_arrays args s ++ staticLocs frame_1_statics s) 600086 7301442 := h
theorem lw_limb (L : Cond) (hL : ∀ (args : Array Value) (s t : State), L.after args s (.returned (some (.int 1))) t = true) :
    ArmFor flags0 classFile x code maxLocals ret World_1 tables_1 room_1 Calls_1 rest_1 Pre_1
      (fun tb e a s o t => postC L tb e a s o t ∧ Framed s o t (fieldLocs frame_1_writes a s ++ arrayLocs frame_1_arrays a s ++ staticLocs frame_1_statics s) 600086 7301442) := by
  intro l hflags _ _ p e ha hc hk s m args below hf hfit hheap happ hpre
  obtain ⟨k, o, h1, h2, h3, rfl, hF⟩ := lw_comes l hflags p e ha hc hk s m args below hf hfit hheap happ hpre
  exact ⟨k, _, h1, h2, h3, hL args s _, lw_frame hF⟩
theorem i_vc : Claimed_1_1 ∧ Claimed_1_2 := ⟨lw_limb limb_1_1 (fun args s t => by simp [limb_1_1, Cond.after, Cond.holds, Cond.value]), lw_limb limb_1_2 (fun args s t => Cond.after_iff.mpr (by
  first | (rw [show limb_1_2 = Cond.eq .result (.int 1) from rfl, Cond.eq_ints (x := 1) (y := 1) rfl rfl]; simp; done) | (simp [limb_1_2, Cond.value, Term.eval]; done)))⟩
