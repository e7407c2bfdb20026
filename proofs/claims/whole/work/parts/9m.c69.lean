/-! the law: its pieces; every pair of calls, between two states of the law -/
/-- what holds all through the law: the machine, the room, the script of L ints xs at sb -/
def LX (k : QC) (sb L : Nat) (xs : Nat → Int32) : Prop := CX k cL_law RL ∧ kR k = room_1 ∧ knL k = 7 ∧ (kl k).stackTraces = false ∧ HO k ∧ va_X sb L xs (ks k) (ks k).heap ∧ sb < (ks k).heap.size ∧ sb < (kHs k).size ∧ L ≤ 3072
abbrev lenv (sb sv i : Nat) : List (Nat × Value) := [(4, .int (I i)), (0, .ref sb), (1, .ref sv), (2, .ref (sv + 20)), (3, .ref (sv + 62))]
theorem TH_F {k : QC} : TH k (fun _ _ => False) := fun _ _ _ _ _ _ _ _ _ _ _ h => h.elim
section C69
variable {k : QC} {env env' : List (Nat × Value)} {st : List Value} {mm : QM} {pc a b sb L i : Nat} {xs : Nat → Int32}
theorem t_arg {j : Int} {p0 p4 : Nat} (hL : LX k sb L xs) (j0 : 0 ≤ j) (j5 : j ≤ 5) (hi : i + 6 ≤ L) (he0 : env[p0]? = some (0, .ref sb)) (he4 : env[p4]? = some (4, .int (I i))) (d0 : decode cL_law pc = .ok (.aload_n 0, 1)) (d1 : decode cL_law (pc + 1) = .ok (.iload 4, 2)) (d3 : decode cL_law (pc + 3) = .ok (.iconst j, 1)) (d4 : decode cL_law (pc + 4) = .ok (.iadd, 1)) (d5 : decode cL_law (pc + 5) = .ok (.iaload, 1))
    (h : GG k env (.int (xs (i + j.toNat)) :: st) mm (pc + 6) a b) : GG k env st mm pc a b := by
  obtain ⟨X, hR, hN, htr, ho, hX, hb1, hb2, hL2⟩ := hL
  refine t_al p0 X d0 rfl he0 ?_
  refine g_iload p4 X d1 he4 ?_
  refine g_iconst (v := I j) X d3 rfl ?_
  refine g_iadd X d4 ?_
  rw [I_add]
  have hc : (I ((i : Int) + j)).toNatClampNeg = i + j.toNat := by rw [clamp_I (by omega) (by omega)]; omega
  intro H locs ls z hH hl hls
  refine va_sld (A := fun q => (kHs k).size ≤ q) X.1 X.2.1 hX hb1 (by omega) (t_S ho z hH hl) (fun q => ?_) d5 ?_
  · rcases q with q | q
    · rw [show (0 : Int32) = I 0 from rfl, I_lt (by omega) (by omega) (by omega) (by omega)] at q; omega
    · rw [hc] at q; omega
  · rw [hc]; exact h H locs ls z hH hl hls
theorem t_arg0 {p0 p4 : Nat} (hL : LX k sb L xs) (hi : i + 6 ≤ L) (he0 : env[p0]? = some (0, .ref sb)) (he4 : env[p4]? = some (4, .int (I i))) (d0 : decode cL_law pc = .ok (.aload_n 0, 1)) (d1 : decode cL_law (pc + 1) = .ok (.iload 4, 2)) (d5 : decode cL_law (pc + 3) = .ok (.iaload, 1))
    (h : GG k env (.int (xs i) :: st) mm (pc + 4) a b) : GG k env st mm pc a b := by
  obtain ⟨X, hR, hN, htr, ho, hX, hb1, hb2, hL2⟩ := hL
  refine t_al p0 X d0 rfl he0 ?_
  refine g_iload p4 X d1 he4 ?_
  have hc : (I (i : Int)).toNatClampNeg = i := by rw [clamp_I (by omega) (by omega)]; omega
  intro H locs ls z hH hl hls
  refine va_sld (A := fun q => (kHs k).size ≤ q) X.1 X.2.1 hX hb1 (by omega) (t_S ho z hH hl) (fun q => ?_) d5 ?_
  · rcases q with q | q
    · rw [show (0 : Int32) = I 0 from rfl, I_lt (by omega) (by omega) (by omega) (by omega)] at q; omega
    · rw [hc] at q; omega
  · rw [hc]; exact h H locs ls z hH hl hls
theorem t_slen {p0 : Nat} (hL : LX k sb L xs) (he0 : env[p0]? = some (0, .ref sb)) (d0 : decode cL_law pc = .ok (.aload_n 0, 1)) (d1 : decode cL_law (pc + 1) = .ok (.arraylength, 1)) (h : GG k env (.int (I L) :: st) mm (pc + 2) a b) : GG k env st mm pc a b := by
  obtain ⟨X, hR, hN, htr, ho, hX, hb1, hb2, hL2⟩ := hL
  refine t_al p0 X d0 rfl he0 ?_
  intro H locs ls z hH hl hls
  refine va_slen (A := fun q => (kHs k).size ≤ q) X.1 X.2.1 hX hb1 (by omega) (t_S ho z hH hl) d1 ?_
  rw [I_nat]
  exact h H locs ls z hH hl hls
end C69
section C69b
variable {sv : Nat} {G : GM} {S S' : MS} {m m' : QM} {t : Int}
theorem th_val {mo : Nat} (h : RM mo S m) : F_X7_thrown mo m = some (.ok (I (mf S 45)), m) := by
  unfold F_X7_thrown
  rw [xb_xp]
  exact x_gi (f := 557) rfl h.ob (h.fi 45)
theorem PW_of {x y : QX Int32} {r : Except Nat Int32} {w : Int32} {e : Int} {mp : Nat → Option Int} {Z : Int32 → Prop} (hC : CR sv G S m) (h62 : qty m (sv + 62) = (3, 0, 1)) (hJ : JN sv t x y m r w e) (hA : AG mp r w e) (hZ : Z w) :
    qty m sv = (1, 7, 0) ∧ qty m (sv + 62) = (3, 0, 1) ∧ ∃ r m1, x m = some (r, m1) ∧ KP sv m m1 ∧ (∀ v, r = .ok v → Z v ∧ rok (AWL sv t y Z) (.ok (some (.int (I 0)))) (sal m1 (sv + 62) 0 v.toInt64)) ∧ (∀ e0, r = .error e0 → ∃ cd, mp e0 = some cd ∧ ∀ n, qtop m1 ≤ n → rok (AWL sv t y Z) (.ok (some (.int (I cd)))) (stop m1 n)) := by
  obtain ⟨r, m1, hx, hk, h1, h2⟩ := AW_of hJ hA h62 hZ
  refine ⟨hC.cf.ty, h62, r, m1, hx, hk, fun v hv => ⟨(h1 v hv).1, _, rfl, (h1 v hv).2⟩, fun e0 he => ?_⟩
  obtain ⟨cd, hcd, h3⟩ := h2 e0 he
  exact ⟨cd, hcd, fun n hn => ⟨_, rfl, h3 n hn⟩⟩
def Zt : Int32 → Prop := fun _ => True
def Zb : Int32 → Prop := fun w => w = 0 ∨ w = 1
theorem zb_b (b : Bool) : Zb (b2i b) := by cases b; · exact Or.inl rfl
                                           exact Or.inr rfl
theorem zb_0 : Zb (I 0) := Or.inl (by decide)
theorem zb_if {c : Prop} [Decidable c] {v w : Int32} (h1 : Zb v) (h2 : Zb w) : Zb (if c then v else w) := by split <;> assumption
theorem ag_chg {a b c d : Bool} {P : Prop} [Decidable P] {v : Int32} (hd : d = decide P) : AG mpA (if (a && b && c) = true then rs3 d true true v else rs3 a b c (I 0)) (if (a && b && c) = true then (if P then v else I 0) else I 0) (if (a && b && c) = true then (if P then 0 else 1) else gc a b c) := by
  by_cases g : (a && b && c) = true
  · rw [if_pos g, if_pos g, if_pos g]
    by_cases p : P
    · rw [hd, decide_eq_true p, if_pos p, if_pos p]; exact ag_ok
    · rw [hd, decide_eq_false p, if_neg p, if_neg p]; exact ag_er (n := 1) (e := 1) rfl ⟨by decide, by decide⟩
  · rw [if_neg g, if_neg g, if_neg g]
    have q := ag3 (a := a) (b := b) (c := c) (v := I 0) (w := I 0)
    rw [if_neg g] at q
    exact q
theorem W_setOffset (h : LINV sv t m) (ht : t + 2 ≤ 600) (p0 p1 : Int32) : qty m sv = (1, 7, 0) ∧ qty m (sv + 62) = (3, 0, 1) ∧ ∃ r m1, F_X6_setOffset sv p0 p1 m = some (r, m1) ∧ KP sv m m1 ∧ (∀ v, r = .ok v → True ∧ rok (AWL sv t (F_X7_setOffset (sv + 20) p0 p1) (fun _ => True)) (.ok (some (.int (I 0)))) (sal m1 (sv + 62) 0 v.toInt64)) ∧ (∀ e0, r = .error e0 → ∃ cd, mpB e0 = some cd ∧ ∀ n, qtop m1 ≤ n → rok (AWL sv t (F_X7_setOffset (sv + 20) p0 p1) (fun _ => True)) (.ok (some (.int (I cd)))) (stop m1 n)) := by
  obtain ⟨G, S, hC, hs, hR, h62⟩ := h
  obtain ⟨z0, l0, u0, rfl⟩ := I_of p0; obtain ⟨z1, l1, u1, rfl⟩ := I_of p1
  exact PW_of (Z := (fun _ => True)) hC h62 (j_setOffset hC hs ht hR l0 u0 l1 u1) ag2 trivial
theorem W_setSummer (h : LINV sv t m) (ht : t + 2 ≤ 600) (p0 p1 p2 : Int32) : qty m sv = (1, 7, 0) ∧ qty m (sv + 62) = (3, 0, 1) ∧ ∃ r m1, F_X6_setSummer sv p0 p1 p2 m = some (r, m1) ∧ KP sv m m1 ∧ (∀ v, r = .ok v → True ∧ rok (AWL sv t (F_X7_setSummer (sv + 20) p0 p1 p2) (fun _ => True)) (.ok (some (.int (I 0)))) (sal m1 (sv + 62) 0 v.toInt64)) ∧ (∀ e0, r = .error e0 → ∃ cd, mpB e0 = some cd ∧ ∀ n, qtop m1 ≤ n → rok (AWL sv t (F_X7_setSummer (sv + 20) p0 p1 p2) (fun _ => True)) (.ok (some (.int (I cd)))) (stop m1 n)) := by
  obtain ⟨G, S, hC, hs, hR, h62⟩ := h
  obtain ⟨z0, l0, u0, rfl⟩ := I_of p0; obtain ⟨z1, l1, u1, rfl⟩ := I_of p1; obtain ⟨z2, l2, u2, rfl⟩ := I_of p2
  exact PW_of (Z := (fun _ => True)) hC h62 (j_setSummer hC hs ht hR l0 u0 l1 u1 l2 u2) ag2 trivial
theorem W_common (h : LINV sv t m) (ht : t + 2 ≤ 600) (p0 p1 : Int32) : qty m sv = (1, 7, 0) ∧ qty m (sv + 62) = (3, 0, 1) ∧ ∃ r m1, F_X6_common sv p0 p1 m = some (r, m1) ∧ KP sv m m1 ∧ (∀ v, r = .ok v → True ∧ rok (AWL sv t (F_X7_common (sv + 20) p0 p1) (fun _ => True)) (.ok (some (.int (I 0)))) (sal m1 (sv + 62) 0 v.toInt64)) ∧ (∀ e0, r = .error e0 → ∃ cd, mpB e0 = some cd ∧ ∀ n, qtop m1 ≤ n → rok (AWL sv t (F_X7_common (sv + 20) p0 p1) (fun _ => True)) (.ok (some (.int (I cd)))) (stop m1 n)) := by
  obtain ⟨G, S, hC, hs, hR, h62⟩ := h
  obtain ⟨z0, l0, u0, rfl⟩ := I_of p0; obtain ⟨z1, l1, u1, rfl⟩ := I_of p1
  exact PW_of (Z := (fun _ => True)) hC h62 (j_common hC hs ht hR l0 u0 l1 u1) ag2 trivial
theorem W_local (h : LINV sv t m) (ht : t + 2 ≤ 600) (p0 p1 : Int32) : qty m sv = (1, 7, 0) ∧ qty m (sv + 62) = (3, 0, 1) ∧ ∃ r m1, F_X6_local sv p0 p1 m = some (r, m1) ∧ KP sv m m1 ∧ (∀ v, r = .ok v → True ∧ rok (AWL sv t (F_X7_local (sv + 20) p0 p1) (fun _ => True)) (.ok (some (.int (I 0)))) (sal m1 (sv + 62) 0 v.toInt64)) ∧ (∀ e0, r = .error e0 → ∃ cd, mpB e0 = some cd ∧ ∀ n, qtop m1 ≤ n → rok (AWL sv t (F_X7_local (sv + 20) p0 p1) (fun _ => True)) (.ok (some (.int (I cd)))) (stop m1 n)) := by
  obtain ⟨G, S, hC, hs, hR, h62⟩ := h
  obtain ⟨z0, l0, u0, rfl⟩ := I_of p0; obtain ⟨z1, l1, u1, rfl⟩ := I_of p1
  exact PW_of (Z := (fun _ => True)) hC h62 (j_local hC hs ht hR l0 u0 l1 u1) ag2 trivial
theorem W_make (h : LINV sv t m) (ht : t + 2 ≤ 600) (p0 p1 p2 p3 p4 : Int32) : qty m sv = (1, 7, 0) ∧ qty m (sv + 62) = (3, 0, 1) ∧ ∃ r m1, F_X6_make sv p0 p1 p2 p3 p4 m = some (r, m1) ∧ KP sv m m1 ∧ (∀ v, r = .ok v → True ∧ rok (AWL sv t (F_X7_make (sv + 20) p0 p1 p2 p3 p4) (fun _ => True)) (.ok (some (.int (I 0)))) (sal m1 (sv + 62) 0 v.toInt64)) ∧ (∀ e0, r = .error e0 → ∃ cd, mpA e0 = some cd ∧ ∀ n, qtop m1 ≤ n → rok (AWL sv t (F_X7_make (sv + 20) p0 p1 p2 p3 p4) (fun _ => True)) (.ok (some (.int (I cd)))) (stop m1 n)) := by
  obtain ⟨G, S, hC, hs, hR, h62⟩ := h
  obtain ⟨z0, l0, u0, rfl⟩ := I_of p0; obtain ⟨z1, l1, u1, rfl⟩ := I_of p1; obtain ⟨z2, l2, u2, rfl⟩ := I_of p2; obtain ⟨z3, l3, u3, rfl⟩ := I_of p3; obtain ⟨z4, l4, u4, rfl⟩ := I_of p4
  exact PW_of (Z := (fun _ => True)) hC h62 (j_make hC hs ht hR l0 u0 l1 u1 l2 u2 l3 u3 l4 u4) ag3 trivial
theorem W_time (h : LINV sv t m) (ht : t + 2 ≤ 600) (p0 p1 p2 p3 : Int32) : qty m sv = (1, 7, 0) ∧ qty m (sv + 62) = (3, 0, 1) ∧ ∃ r m1, F_X6_time sv p0 p1 p2 p3 m = some (r, m1) ∧ KP sv m m1 ∧ (∀ v, r = .ok v → True ∧ rok (AWL sv t (F_X7_time (sv + 20) p0 p1 p2 p3) (fun _ => True)) (.ok (some (.int (I 0)))) (sal m1 (sv + 62) 0 v.toInt64)) ∧ (∀ e0, r = .error e0 → ∃ cd, mpA e0 = some cd ∧ ∀ n, qtop m1 ≤ n → rok (AWL sv t (F_X7_time (sv + 20) p0 p1 p2 p3) (fun _ => True)) (.ok (some (.int (I cd)))) (stop m1 n)) := by
  obtain ⟨G, S, hC, hs, hR, h62⟩ := h
  obtain ⟨z0, l0, u0, rfl⟩ := I_of p0; obtain ⟨z1, l1, u1, rfl⟩ := I_of p1; obtain ⟨z2, l2, u2, rfl⟩ := I_of p2; obtain ⟨z3, l3, u3, rfl⟩ := I_of p3
  exact PW_of (Z := (fun _ => True)) hC h62 (j_time hC hs ht hR l0 u0 l1 u1 l2 u2 l3 u3) ag3 trivial
theorem W_repeat (h : LINV sv t m) (ht : t + 2 ≤ 600) (p0 p1 p2 p3 : Int32) : qty m sv = (1, 7, 0) ∧ qty m (sv + 62) = (3, 0, 1) ∧ ∃ r m1, F_X6_repeat sv p0 p1 p2 p3 m = some (r, m1) ∧ KP sv m m1 ∧ (∀ v, r = .ok v → True ∧ rok (AWL sv t (F_X7_repeat (sv + 20) p0 p1 p2 p3) (fun _ => True)) (.ok (some (.int (I 0)))) (sal m1 (sv + 62) 0 v.toInt64)) ∧ (∀ e0, r = .error e0 → ∃ cd, mpA e0 = some cd ∧ ∀ n, qtop m1 ≤ n → rok (AWL sv t (F_X7_repeat (sv + 20) p0 p1 p2 p3) (fun _ => True)) (.ok (some (.int (I cd)))) (stop m1 n)) := by
  obtain ⟨G, S, hC, hs, hR, h62⟩ := h
  obtain ⟨z0, l0, u0, rfl⟩ := I_of p0; obtain ⟨z1, l1, u1, rfl⟩ := I_of p1; obtain ⟨z2, l2, u2, rfl⟩ := I_of p2; obtain ⟨z3, l3, u3, rfl⟩ := I_of p3
  exact PW_of (Z := (fun _ => True)) hC h62 (j_repeat hC hs ht hR l0 u0 l1 u1 l2 u2 l3 u3) ag3 trivial
theorem W_drop (h : LINV sv t m) (ht : t + 2 ≤ 600) (p0 p1 : Int32) : qty m sv = (1, 7, 0) ∧ qty m (sv + 62) = (3, 0, 1) ∧ ∃ r m1, F_X6_drop sv p0 p1 m = some (r, m1) ∧ KP sv m m1 ∧ (∀ v, r = .ok v → True ∧ rok (AWL sv t (F_X7_drop (sv + 20) p0 p1) (fun _ => True)) (.ok (some (.int (I 0)))) (sal m1 (sv + 62) 0 v.toInt64)) ∧ (∀ e0, r = .error e0 → ∃ cd, mpA e0 = some cd ∧ ∀ n, qtop m1 ≤ n → rok (AWL sv t (F_X7_drop (sv + 20) p0 p1) (fun _ => True)) (.ok (some (.int (I cd)))) (stop m1 n)) := by
  obtain ⟨G, S, hC, hs, hR, h62⟩ := h
  obtain ⟨z0, l0, u0, rfl⟩ := I_of p0; obtain ⟨z1, l1, u1, rfl⟩ := I_of p1
  exact PW_of (Z := (fun _ => True)) hC h62 (j_drop hC hs ht hR l0 u0 l1 u1) ag3 trivial
theorem W_add (h : LINV sv t m) (ht : t + 2 ≤ 600) (p0 p1 : Int32) : qty m sv = (1, 7, 0) ∧ qty m (sv + 62) = (3, 0, 1) ∧ ∃ r m1, F_X6_add sv p0 p1 m = some (r, m1) ∧ KP sv m m1 ∧ (∀ v, r = .ok v → True ∧ rok (AWL sv t (F_X7_add (sv + 20) p0 p1) (fun _ => True)) (.ok (some (.int (I 0)))) (sal m1 (sv + 62) 0 v.toInt64)) ∧ (∀ e0, r = .error e0 → ∃ cd, mpA e0 = some cd ∧ ∀ n, qtop m1 ≤ n → rok (AWL sv t (F_X7_add (sv + 20) p0 p1) (fun _ => True)) (.ok (some (.int (I cd)))) (stop m1 n)) := by
  obtain ⟨G, S, hC, hs, hR, h62⟩ := h
  obtain ⟨z0, l0, u0, rfl⟩ := I_of p0; obtain ⟨z1, l1, u1, rfl⟩ := I_of p1
  exact PW_of (Z := (fun _ => True)) hC h62 (j_add hC hs ht hR l0 u0 l1 u1) ag3 trivial
theorem W_move (h : LINV sv t m) (ht : t + 2 ≤ 600) (p0 p1 p2 : Int32) : qty m sv = (1, 7, 0) ∧ qty m (sv + 62) = (3, 0, 1) ∧ ∃ r m1, F_X6_move sv p0 p1 p2 m = some (r, m1) ∧ KP sv m m1 ∧ (∀ v, r = .ok v → True ∧ rok (AWL sv t (F_X7_move (sv + 20) p0 p1 p2) (fun _ => True)) (.ok (some (.int (I 0)))) (sal m1 (sv + 62) 0 v.toInt64)) ∧ (∀ e0, r = .error e0 → ∃ cd, mpA e0 = some cd ∧ ∀ n, qtop m1 ≤ n → rok (AWL sv t (F_X7_move (sv + 20) p0 p1 p2) (fun _ => True)) (.ok (some (.int (I cd)))) (stop m1 n)) := by
  obtain ⟨G, S, hC, hs, hR, h62⟩ := h
  obtain ⟨z0, l0, u0, rfl⟩ := I_of p0; obtain ⟨z1, l1, u1, rfl⟩ := I_of p1; obtain ⟨z2, l2, u2, rfl⟩ := I_of p2
  exact PW_of (Z := (fun _ => True)) hC h62 (j_move hC hs ht hR l0 u0 l1 u1 l2 u2) ag3 trivial
theorem W_invite (h : LINV sv t m) (ht : t + 2 ≤ 600) (p0 p1 : Int32) (b : Bool) : qty m sv = (1, 7, 0) ∧ qty m (sv + 62) = (3, 0, 1) ∧ ∃ r m1, F_X6_invite sv p0 p1 (b2i b) m = some (r, m1) ∧ KP sv m m1 ∧ (∀ v, r = .ok v → True ∧ rok (AWL sv t (F_X7_invite (sv + 20) p0 p1 (b2i b)) (fun _ => True)) (.ok (some (.int (I 0)))) (sal m1 (sv + 62) 0 v.toInt64)) ∧ (∀ e0, r = .error e0 → ∃ cd, mpA e0 = some cd ∧ ∀ n, qtop m1 ≤ n → rok (AWL sv t (F_X7_invite (sv + 20) p0 p1 (b2i b)) (fun _ => True)) (.ok (some (.int (I cd)))) (stop m1 n)) := by
  obtain ⟨G, S, hC, hs, hR, h62⟩ := h
  obtain ⟨z0, l0, u0, rfl⟩ := I_of p0; obtain ⟨z1, l1, u1, rfl⟩ := I_of p1
  exact PW_of (Z := (fun _ => True)) hC h62 (j_invite b hC hs ht hR l0 u0 l1 u1) ag3 trivial
theorem W_cancel (h : LINV sv t m) (ht : t + 2 ≤ 600) (p0 : Int32) : qty m sv = (1, 7, 0) ∧ qty m (sv + 62) = (3, 0, 1) ∧ ∃ r m1, F_X6_cancel sv p0 m = some (r, m1) ∧ KP sv m m1 ∧ (∀ v, r = .ok v → True ∧ rok (AWL sv t (F_X7_cancel (sv + 20) p0) (fun _ => True)) (.ok (some (.int (I 0)))) (sal m1 (sv + 62) 0 v.toInt64)) ∧ (∀ e0, r = .error e0 → ∃ cd, mpC e0 = some cd ∧ ∀ n, qtop m1 ≤ n → rok (AWL sv t (F_X7_cancel (sv + 20) p0) (fun _ => True)) (.ok (some (.int (I cd)))) (stop m1 n)) := by
  obtain ⟨G, S, hC, hs, hR, h62⟩ := h
  obtain ⟨z0, l0, u0, rfl⟩ := I_of p0
  exact PW_of (Z := (fun _ => True)) hC h62 (j_cancel hC hs ht hR l0 u0) agC trivial
theorem W_send (h : LINV sv t m) (ht : t + 2 ≤ 600) (p0 : Int32) : qty m sv = (1, 7, 0) ∧ qty m (sv + 62) = (3, 0, 1) ∧ ∃ r m1, F_X6_send sv p0 m = some (r, m1) ∧ KP sv m m1 ∧ (∀ v, r = .ok v → True ∧ rok (AWL sv t (F_X7_send (sv + 20) p0) (fun _ => True)) (.ok (some (.int (I 0)))) (sal m1 (sv + 62) 0 v.toInt64)) ∧ (∀ e0, r = .error e0 → ∃ cd, mpC e0 = some cd ∧ ∀ n, qtop m1 ≤ n → rok (AWL sv t (F_X7_send (sv + 20) p0) (fun _ => True)) (.ok (some (.int (I cd)))) (stop m1 n)) := by
  obtain ⟨G, S, hC, hs, hR, h62⟩ := h
  obtain ⟨z0, l0, u0, rfl⟩ := I_of p0
  exact PW_of (Z := (fun _ => True)) hC h62 (j_send hC hs ht hR l0 u0) agC trivial
theorem W_take (h : LINV sv t m) (ht : t + 2 ≤ 600) (p0 : Int32) : qty m sv = (1, 7, 0) ∧ qty m (sv + 62) = (3, 0, 1) ∧ ∃ r m1, F_X6_take sv p0 m = some (r, m1) ∧ KP sv m m1 ∧ (∀ v, r = .ok v → True ∧ rok (AWL sv t (F_X7_take (sv + 20) p0) (fun _ => True)) (.ok (some (.int (I 0)))) (sal m1 (sv + 62) 0 v.toInt64)) ∧ (∀ e0, r = .error e0 → ∃ cd, mpC e0 = some cd ∧ ∀ n, qtop m1 ≤ n → rok (AWL sv t (F_X7_take (sv + 20) p0) (fun _ => True)) (.ok (some (.int (I cd)))) (stop m1 n)) := by
  obtain ⟨G, S, hC, hs, hR, h62⟩ := h
  obtain ⟨z0, l0, u0, rfl⟩ := I_of p0
  exact PW_of (Z := (fun _ => True)) hC h62 (j_take hC hs ht hR l0 u0) agC2 trivial
theorem W_refuse (h : LINV sv t m) (ht : t + 2 ≤ 600) (p0 : Int32) : qty m sv = (1, 7, 0) ∧ qty m (sv + 62) = (3, 0, 1) ∧ ∃ r m1, F_X6_refuse sv p0 m = some (r, m1) ∧ KP sv m m1 ∧ (∀ v, r = .ok v → True ∧ rok (AWL sv t (F_X7_refuse (sv + 20) p0) (fun _ => True)) (.ok (some (.int (I 0)))) (sal m1 (sv + 62) 0 v.toInt64)) ∧ (∀ e0, r = .error e0 → ∃ cd, mpC e0 = some cd ∧ ∀ n, qtop m1 ≤ n → rok (AWL sv t (F_X7_refuse (sv + 20) p0) (fun _ => True)) (.ok (some (.int (I cd)))) (stop m1 n)) := by
  obtain ⟨G, S, hC, hs, hR, h62⟩ := h
  obtain ⟨z0, l0, u0, rfl⟩ := I_of p0
  exact PW_of (Z := (fun _ => True)) hC h62 (j_refuse hC hs ht hR l0 u0) agC2 trivial
theorem W_answer (h : LINV sv t m) (ht : t + 2 ≤ 600) (p0 p1 p2 p3 : Int32) : qty m sv = (1, 7, 0) ∧ qty m (sv + 62) = (3, 0, 1) ∧ ∃ r m1, F_X6_answer sv p0 p1 p2 p3 m = some (r, m1) ∧ KP sv m m1 ∧ (∀ v, r = .ok v → True ∧ rok (AWL sv t (F_X7_answer (sv + 20) p0 p1 p2 p3) (fun _ => True)) (.ok (some (.int (I 0)))) (sal m1 (sv + 62) 0 v.toInt64)) ∧ (∀ e0, r = .error e0 → ∃ cd, mpA e0 = some cd ∧ ∀ n, qtop m1 ≤ n → rok (AWL sv t (F_X7_answer (sv + 20) p0 p1 p2 p3) (fun _ => True)) (.ok (some (.int (I cd)))) (stop m1 n)) := by
  obtain ⟨G, S, hC, hs, hR, h62⟩ := h
  obtain ⟨z0, l0, u0, rfl⟩ := I_of p0; obtain ⟨z1, l1, u1, rfl⟩ := I_of p1; obtain ⟨z2, l2, u2, rfl⟩ := I_of p2; obtain ⟨z3, l3, u3, rfl⟩ := I_of p3
  exact PW_of (Z := (fun _ => True)) hC h62 (j_answer hC hs ht hR l0 u0 l1 u1 l2 u2 l3 u3) ag3 trivial
theorem W_delegate (h : LINV sv t m) (ht : t + 2 ≤ 600) (p0 p1 p2 : Int32) : qty m sv = (1, 7, 0) ∧ qty m (sv + 62) = (3, 0, 1) ∧ ∃ r m1, F_X6_delegate sv p0 p1 p2 m = some (r, m1) ∧ KP sv m m1 ∧ (∀ v, r = .ok v → True ∧ rok (AWL sv t (F_X7_delegate (sv + 20) p0 p1 p2) (fun _ => True)) (.ok (some (.int (I 0)))) (sal m1 (sv + 62) 0 v.toInt64)) ∧ (∀ e0, r = .error e0 → ∃ cd, mpA e0 = some cd ∧ ∀ n, qtop m1 ≤ n → rok (AWL sv t (F_X7_delegate (sv + 20) p0 p1 p2) (fun _ => True)) (.ok (some (.int (I cd)))) (stop m1 n)) := by
  obtain ⟨G, S, hC, hs, hR, h62⟩ := h
  obtain ⟨z0, l0, u0, rfl⟩ := I_of p0; obtain ⟨z1, l1, u1, rfl⟩ := I_of p1; obtain ⟨z2, l2, u2, rfl⟩ := I_of p2
  exact PW_of (Z := (fun _ => True)) hC h62 (j_delegate hC hs ht hR l0 u0 l1 u1 l2 u2) ag3 trivial
theorem W_propose (h : LINV sv t m) (ht : t + 2 ≤ 600) (p0 p1 p2 p3 : Int32) : qty m sv = (1, 7, 0) ∧ qty m (sv + 62) = (3, 0, 1) ∧ ∃ r m1, F_X6_propose sv p0 p1 p2 p3 m = some (r, m1) ∧ KP sv m m1 ∧ (∀ v, r = .ok v → True ∧ rok (AWL sv t (F_X7_propose (sv + 20) p0 p1 p2 p3) (fun _ => True)) (.ok (some (.int (I 0)))) (sal m1 (sv + 62) 0 v.toInt64)) ∧ (∀ e0, r = .error e0 → ∃ cd, mpA e0 = some cd ∧ ∀ n, qtop m1 ≤ n → rok (AWL sv t (F_X7_propose (sv + 20) p0 p1 p2 p3) (fun _ => True)) (.ok (some (.int (I cd)))) (stop m1 n)) := by
  obtain ⟨G, S, hC, hs, hR, h62⟩ := h
  obtain ⟨z0, l0, u0, rfl⟩ := I_of p0; obtain ⟨z1, l1, u1, rfl⟩ := I_of p1; obtain ⟨z2, l2, u2, rfl⟩ := I_of p2; obtain ⟨z3, l3, u3, rfl⟩ := I_of p3
  exact PW_of (Z := (fun _ => True)) hC h62 (j_propose hC hs ht hR l0 u0 l1 u1 l2 u2 l3 u3) ag3 trivial
theorem W_deliver (h : LINV sv t m) (ht : t + 2 ≤ 600) (p0 : Int32) : qty m sv = (1, 7, 0) ∧ qty m (sv + 62) = (3, 0, 1) ∧ ∃ r m1, F_X6_deliver sv p0 m = some (r, m1) ∧ KP sv m m1 ∧ (∀ v, r = .ok v → (v = 0 ∨ v = 1) ∧ rok (AWL sv t (F_X7_deliver (sv + 20) p0) (fun v => v = 0 ∨ v = 1)) (.ok (some (.int (I 0)))) (sal m1 (sv + 62) 0 v.toInt64)) ∧ (∀ e0, r = .error e0 → ∃ cd, mpD e0 = some cd ∧ ∀ n, qtop m1 ≤ n → rok (AWL sv t (F_X7_deliver (sv + 20) p0) (fun v => v = 0 ∨ v = 1)) (.ok (some (.int (I cd)))) (stop m1 n)) := by
  obtain ⟨G, S, hC, hs, hR, h62⟩ := h
  obtain ⟨z0, l0, u0, rfl⟩ := I_of p0
  exact PW_of (Z := (fun v => v = 0 ∨ v = 1)) hC h62 (j_deliver hC hs ht hR l0 u0) ag1b (zb_if (zb_b _) zb_0)
theorem W_kindOf (h : LINV sv t m) (ht : t + 2 ≤ 600) (p0 : Int32) : qty m sv = (1, 7, 0) ∧ qty m (sv + 62) = (3, 0, 1) ∧ ∃ r m1, F_X6_kindOf sv p0 m = some (r, m1) ∧ KP sv m m1 ∧ (∀ v, r = .ok v → True ∧ rok (AWL sv t (F_X7_kindOf (sv + 20) p0) (fun _ => True)) (.ok (some (.int (I 0)))) (sal m1 (sv + 62) 0 v.toInt64)) ∧ (∀ e0, r = .error e0 → ∃ cd, mpD e0 = some cd ∧ ∀ n, qtop m1 ≤ n → rok (AWL sv t (F_X7_kindOf (sv + 20) p0) (fun _ => True)) (.ok (some (.int (I cd)))) (stop m1 n)) := by
  obtain ⟨G, S, hC, hs, hR, h62⟩ := h
  obtain ⟨z0, l0, u0, rfl⟩ := I_of p0
  exact PW_of (Z := (fun _ => True)) hC h62 (j_kindOf hC hs ht hR l0 u0) ag1 trivial
theorem W_receiver (h : LINV sv t m) (ht : t + 2 ≤ 600) (p0 : Int32) : qty m sv = (1, 7, 0) ∧ qty m (sv + 62) = (3, 0, 1) ∧ ∃ r m1, F_X6_receiver sv p0 m = some (r, m1) ∧ KP sv m m1 ∧ (∀ v, r = .ok v → True ∧ rok (AWL sv t (F_X7_receiver (sv + 20) p0) (fun _ => True)) (.ok (some (.int (I 0)))) (sal m1 (sv + 62) 0 v.toInt64)) ∧ (∀ e0, r = .error e0 → ∃ cd, mpD e0 = some cd ∧ ∀ n, qtop m1 ≤ n → rok (AWL sv t (F_X7_receiver (sv + 20) p0) (fun _ => True)) (.ok (some (.int (I cd)))) (stop m1 n)) := by
  obtain ⟨G, S, hC, hs, hR, h62⟩ := h
  obtain ⟨z0, l0, u0, rfl⟩ := I_of p0
  exact PW_of (Z := (fun _ => True)) hC h62 (j_receiver hC hs ht hR l0 u0) ag1 trivial
theorem W_isThere (h : LINV sv t m) (ht : t + 2 ≤ 600) (p0 p1 : Int32) : qty m sv = (1, 7, 0) ∧ qty m (sv + 62) = (3, 0, 1) ∧ ∃ r m1, F_X6_isThere sv p0 p1 m = some (r, m1) ∧ KP sv m m1 ∧ (∀ v, r = .ok v → (v = 0 ∨ v = 1) ∧ rok (AWL sv t (F_X7_isThere (sv + 20) p0 p1) (fun v => v = 0 ∨ v = 1)) (.ok (some (.int (I 0)))) (sal m1 (sv + 62) 0 v.toInt64)) ∧ (∀ e0, r = .error e0 → ∃ cd, mpD e0 = some cd ∧ ∀ n, qtop m1 ≤ n → rok (AWL sv t (F_X7_isThere (sv + 20) p0 p1) (fun v => v = 0 ∨ v = 1)) (.ok (some (.int (I cd)))) (stop m1 n)) := by
  obtain ⟨G, S, hC, hs, hR, h62⟩ := h
  obtain ⟨z0, l0, u0, rfl⟩ := I_of p0; obtain ⟨z1, l1, u1, rfl⟩ := I_of p1
  exact PW_of (Z := (fun v => v = 0 ∨ v = 1)) hC h62 (j_isThere hC hs ht hR l0 u0 l1 u1) ag1 (zb_if (zb_b _) (zb_b _))
theorem W_sequence (h : LINV sv t m) (ht : t + 2 ≤ 600) (p0 p1 : Int32) : qty m sv = (1, 7, 0) ∧ qty m (sv + 62) = (3, 0, 1) ∧ ∃ r m1, F_X6_sequence sv p0 p1 m = some (r, m1) ∧ KP sv m m1 ∧ (∀ v, r = .ok v → True ∧ rok (AWL sv t (F_X7_sequence (sv + 20) p0 p1) (fun _ => True)) (.ok (some (.int (I 0)))) (sal m1 (sv + 62) 0 v.toInt64)) ∧ (∀ e0, r = .error e0 → ∃ cd, mpD e0 = some cd ∧ ∀ n, qtop m1 ≤ n → rok (AWL sv t (F_X7_sequence (sv + 20) p0 p1) (fun _ => True)) (.ok (some (.int (I cd)))) (stop m1 n)) := by
  obtain ⟨G, S, hC, hs, hR, h62⟩ := h
  obtain ⟨z0, l0, u0, rfl⟩ := I_of p0; obtain ⟨z1, l1, u1, rfl⟩ := I_of p1
  exact PW_of (Z := (fun _ => True)) hC h62 (j_sequence hC hs ht hR l0 u0 l1 u1) ag1 trivial
theorem W_dates (h : LINV sv t m) (ht : t + 2 ≤ 600) (p0 p1 : Int32) : qty m sv = (1, 7, 0) ∧ qty m (sv + 62) = (3, 0, 1) ∧ ∃ r m1, F_X6_dates sv p0 p1 m = some (r, m1) ∧ KP sv m m1 ∧ (∀ v, r = .ok v → True ∧ rok (AWL sv t (F_X7_dates (sv + 20) p0 p1) (fun _ => True)) (.ok (some (.int (I 0)))) (sal m1 (sv + 62) 0 v.toInt64)) ∧ (∀ e0, r = .error e0 → ∃ cd, mpD e0 = some cd ∧ ∀ n, qtop m1 ≤ n → rok (AWL sv t (F_X7_dates (sv + 20) p0 p1) (fun _ => True)) (.ok (some (.int (I cd)))) (stop m1 n)) := by
  obtain ⟨G, S, hC, hs, hR, h62⟩ := h
  obtain ⟨z0, l0, u0, rfl⟩ := I_of p0; obtain ⟨z1, l1, u1, rfl⟩ := I_of p1
  exact PW_of (Z := (fun _ => True)) hC h62 (j_dates hC hs ht hR l0 u0 l1 u1) ag1 trivial
theorem W_dateAt (h : LINV sv t m) (ht : t + 2 ≤ 600) (p0 p1 p2 : Int32) : qty m sv = (1, 7, 0) ∧ qty m (sv + 62) = (3, 0, 1) ∧ ∃ r m1, F_X6_dateAt sv p0 p1 p2 m = some (r, m1) ∧ KP sv m m1 ∧ (∀ v, r = .ok v → True ∧ rok (AWL sv t (F_X7_dateAt (sv + 20) p0 p1 p2) (fun _ => True)) (.ok (some (.int (I 0)))) (sal m1 (sv + 62) 0 v.toInt64)) ∧ (∀ e0, r = .error e0 → ∃ cd, mpD e0 = some cd ∧ ∀ n, qtop m1 ≤ n → rok (AWL sv t (F_X7_dateAt (sv + 20) p0 p1 p2) (fun _ => True)) (.ok (some (.int (I cd)))) (stop m1 n)) := by
  obtain ⟨G, S, hC, hs, hR, h62⟩ := h
  obtain ⟨z0, l0, u0, rfl⟩ := I_of p0; obtain ⟨z1, l1, u1, rfl⟩ := I_of p1; obtain ⟨z2, l2, u2, rfl⟩ := I_of p2
  exact PW_of (Z := (fun _ => True)) hC h62 (j_dateAt hC hs ht hR l0 u0 l1 u1 l2 u2) ag1 trivial
theorem W_begin (h : LINV sv t m) (ht : t + 2 ≤ 600) (p0 p1 p2 : Int32) : qty m sv = (1, 7, 0) ∧ qty m (sv + 62) = (3, 0, 1) ∧ ∃ r m1, F_X6_begin sv p0 p1 p2 m = some (r, m1) ∧ KP sv m m1 ∧ (∀ v, r = .ok v → True ∧ rok (AWL sv t (F_X7_begin (sv + 20) p0 p1 p2) (fun _ => True)) (.ok (some (.int (I 0)))) (sal m1 (sv + 62) 0 v.toInt64)) ∧ (∀ e0, r = .error e0 → ∃ cd, mpA e0 = some cd ∧ ∀ n, qtop m1 ≤ n → rok (AWL sv t (F_X7_begin (sv + 20) p0 p1 p2) (fun _ => True)) (.ok (some (.int (I cd)))) (stop m1 n)) := by
  obtain ⟨G, S, hC, hs, hR, h62⟩ := h
  obtain ⟨z0, l0, u0, rfl⟩ := I_of p0; obtain ⟨z1, l1, u1, rfl⟩ := I_of p1; obtain ⟨z2, l2, u2, rfl⟩ := I_of p2
  exact PW_of (Z := (fun _ => True)) hC h62 (j_begin hC hs ht hR l0 u0 l1 u1 l2 u2) ag3 trivial
theorem W_ownAnswer (h : LINV sv t m) (ht : t + 2 ≤ 600) (p0 p1 p2 : Int32) : qty m sv = (1, 7, 0) ∧ qty m (sv + 62) = (3, 0, 1) ∧ ∃ r m1, F_X6_ownAnswer sv p0 p1 p2 m = some (r, m1) ∧ KP sv m m1 ∧ (∀ v, r = .ok v → True ∧ rok (AWL sv t (F_X7_ownAnswer (sv + 20) p0 p1 p2) (fun _ => True)) (.ok (some (.int (I 0)))) (sal m1 (sv + 62) 0 v.toInt64)) ∧ (∀ e0, r = .error e0 → ∃ cd, mpA e0 = some cd ∧ ∀ n, qtop m1 ≤ n → rok (AWL sv t (F_X7_ownAnswer (sv + 20) p0 p1 p2) (fun _ => True)) (.ok (some (.int (I cd)))) (stop m1 n)) := by
  obtain ⟨G, S, hC, hs, hR, h62⟩ := h
  obtain ⟨z0, l0, u0, rfl⟩ := I_of p0; obtain ⟨z1, l1, u1, rfl⟩ := I_of p1; obtain ⟨z2, l2, u2, rfl⟩ := I_of p2
  exact PW_of (Z := (fun _ => True)) hC h62 (j_ownAnswer hC hs ht hR l0 u0 l1 u1 l2 u2) ag3 trivial
theorem W_isAsked (h : LINV sv t m) (ht : t + 2 ≤ 600) (p0 p1 : Int32) : qty m sv = (1, 7, 0) ∧ qty m (sv + 62) = (3, 0, 1) ∧ ∃ r m1, F_X6_isAsked sv p0 p1 m = some (r, m1) ∧ KP sv m m1 ∧ (∀ v, r = .ok v → (v = 0 ∨ v = 1) ∧ rok (AWL sv t (F_X7_isAsked (sv + 20) p0 p1) (fun v => v = 0 ∨ v = 1)) (.ok (some (.int (I 0)))) (sal m1 (sv + 62) 0 v.toInt64)) ∧ (∀ e0, r = .error e0 → ∃ cd, mpD e0 = some cd ∧ ∀ n, qtop m1 ≤ n → rok (AWL sv t (F_X7_isAsked (sv + 20) p0 p1) (fun v => v = 0 ∨ v = 1)) (.ok (some (.int (I cd)))) (stop m1 n)) := by
  obtain ⟨G, S, hC, hs, hR, h62⟩ := h
  obtain ⟨z0, l0, u0, rfl⟩ := I_of p0; obtain ⟨z1, l1, u1, rfl⟩ := I_of p1
  exact PW_of (Z := (fun v => v = 0 ∨ v = 1)) hC h62 (j_isAsked hC hs ht hR l0 u0 l1 u1) ag1 (zb_if (zb_b _) (zb_b _))
theorem W_answerOf (h : LINV sv t m) (ht : t + 2 ≤ 600) (p0 p1 p2 : Int32) : qty m sv = (1, 7, 0) ∧ qty m (sv + 62) = (3, 0, 1) ∧ ∃ r m1, F_X6_answerOf sv p0 p1 p2 m = some (r, m1) ∧ KP sv m m1 ∧ (∀ v, r = .ok v → True ∧ rok (AWL sv t (F_X7_answerOf (sv + 20) p0 p1 p2) (fun _ => True)) (.ok (some (.int (I 0)))) (sal m1 (sv + 62) 0 v.toInt64)) ∧ (∀ e0, r = .error e0 → ∃ cd, mpA e0 = some cd ∧ ∀ n, qtop m1 ≤ n → rok (AWL sv t (F_X7_answerOf (sv + 20) p0 p1 p2) (fun _ => True)) (.ok (some (.int (I cd)))) (stop m1 n)) := by
  obtain ⟨G, S, hC, hs, hR, h62⟩ := h
  obtain ⟨z0, l0, u0, rfl⟩ := I_of p0; obtain ⟨z1, l1, u1, rfl⟩ := I_of p1; obtain ⟨z2, l2, u2, rfl⟩ := I_of p2
  exact PW_of (Z := (fun _ => True)) hC h62 (j_answerOf hC hs ht hR l0 u0 l1 u1 l2 u2) ag3 trivial
theorem W_answerByLog (h : LINV sv t m) (ht : t + 2 ≤ 600) (p0 p1 p2 : Int32) : qty m sv = (1, 7, 0) ∧ qty m (sv + 62) = (3, 0, 1) ∧ ∃ r m1, F_X6_answerByLog sv p0 p1 p2 m = some (r, m1) ∧ KP sv m m1 ∧ (∀ v, r = .ok v → True ∧ rok (AWL sv t (F_X7_answerByLog (sv + 20) p0 p1 p2) (fun _ => True)) (.ok (some (.int (I 0)))) (sal m1 (sv + 62) 0 v.toInt64)) ∧ (∀ e0, r = .error e0 → ∃ cd, mpA e0 = some cd ∧ ∀ n, qtop m1 ≤ n → rok (AWL sv t (F_X7_answerByLog (sv + 20) p0 p1 p2) (fun _ => True)) (.ok (some (.int (I cd)))) (stop m1 n)) := by
  obtain ⟨G, S, hC, hs, hR, h62⟩ := h
  obtain ⟨z0, l0, u0, rfl⟩ := I_of p0; obtain ⟨z1, l1, u1, rfl⟩ := I_of p1; obtain ⟨z2, l2, u2, rfl⟩ := I_of p2
  exact PW_of (Z := (fun _ => True)) hC h62 (j_answerByLog hC hs ht hR l0 u0 l1 u1 l2 u2) ag3 trivial
theorem W_agrees (h : LINV sv t m) (ht : t + 2 ≤ 600) (p0 : Int32) : qty m sv = (1, 7, 0) ∧ qty m (sv + 62) = (3, 0, 1) ∧ ∃ r m1, F_X6_agrees sv p0 m = some (r, m1) ∧ KP sv m m1 ∧ (∀ v, r = .ok v → (v = 0 ∨ v = 1) ∧ rok (AWL sv t (F_X7_agrees (sv + 20) p0) (fun v => v = 0 ∨ v = 1)) (.ok (some (.int (I 0)))) (sal m1 (sv + 62) 0 v.toInt64)) ∧ (∀ e0, r = .error e0 → ∃ cd, mpD e0 = some cd ∧ ∀ n, qtop m1 ≤ n → rok (AWL sv t (F_X7_agrees (sv + 20) p0) (fun v => v = 0 ∨ v = 1)) (.ok (some (.int (I cd)))) (stop m1 n)) := by
  obtain ⟨G, S, hC, hs, hR, h62⟩ := h
  obtain ⟨z0, l0, u0, rfl⟩ := I_of p0
  exact PW_of (Z := (fun v => v = 0 ∨ v = 1)) hC h62 (j_agrees hC hs ht hR l0 u0) ag1 (zb_if (zb_b _) (zb_b _))
theorem W_proposals (h : LINV sv t m) (ht : t + 2 ≤ 600) (p0 : Int32) : qty m sv = (1, 7, 0) ∧ qty m (sv + 62) = (3, 0, 1) ∧ ∃ r m1, F_X6_proposals sv p0 m = some (r, m1) ∧ KP sv m m1 ∧ (∀ v, r = .ok v → True ∧ rok (AWL sv t (F_X7_proposals (sv + 20) p0) (fun _ => True)) (.ok (some (.int (I 0)))) (sal m1 (sv + 62) 0 v.toInt64)) ∧ (∀ e0, r = .error e0 → ∃ cd, mpD e0 = some cd ∧ ∀ n, qtop m1 ≤ n → rok (AWL sv t (F_X7_proposals (sv + 20) p0) (fun _ => True)) (.ok (some (.int (I cd)))) (stop m1 n)) := by
  obtain ⟨G, S, hC, hs, hR, h62⟩ := h
  obtain ⟨z0, l0, u0, rfl⟩ := I_of p0
  exact PW_of (Z := (fun _ => True)) hC h62 (j_proposals hC hs ht hR l0 u0) ag1 trivial
theorem W_proposalAt (h : LINV sv t m) (ht : t + 2 ≤ 600) (p0 p1 : Int32) : qty m sv = (1, 7, 0) ∧ qty m (sv + 62) = (3, 0, 1) ∧ ∃ r m1, F_X6_proposalAt sv p0 p1 m = some (r, m1) ∧ KP sv m m1 ∧ (∀ v, r = .ok v → True ∧ rok (AWL sv t (F_X7_proposalAt (sv + 20) p0 p1) (fun _ => True)) (.ok (some (.int (I 0)))) (sal m1 (sv + 62) 0 v.toInt64)) ∧ (∀ e0, r = .error e0 → ∃ cd, mpD e0 = some cd ∧ ∀ n, qtop m1 ≤ n → rok (AWL sv t (F_X7_proposalAt (sv + 20) p0 p1) (fun _ => True)) (.ok (some (.int (I cd)))) (stop m1 n)) := by
  obtain ⟨G, S, hC, hs, hR, h62⟩ := h
  obtain ⟨z0, l0, u0, rfl⟩ := I_of p0; obtain ⟨z1, l1, u1, rfl⟩ := I_of p1
  exact PW_of (Z := (fun _ => True)) hC h62 (j_proposalAt hC hs ht hR l0 u0 l1 u1) ag1 trivial
theorem W_rank (h : LINV sv t m) (ht : t + 2 ≤ 600) (p0 p1 : Int32) : qty m sv = (1, 7, 0) ∧ qty m (sv + 62) = (3, 0, 1) ∧ ∃ r m1, F_X6_rank sv p0 p1 m = some (r, m1) ∧ KP sv m m1 ∧ (∀ v, r = .ok v → True ∧ rok (AWL sv t (F_X7_rank (sv + 20) p0 p1) (fun _ => True)) (.ok (some (.int (I 0)))) (sal m1 (sv + 62) 0 v.toInt64)) ∧ (∀ e0, r = .error e0 → ∃ cd, mpB e0 = some cd ∧ ∀ n, qtop m1 ≤ n → rok (AWL sv t (F_X7_rank (sv + 20) p0 p1) (fun _ => True)) (.ok (some (.int (I cd)))) (stop m1 n)) := by
  obtain ⟨G, S, hC, hs, hR, h62⟩ := h
  obtain ⟨z0, l0, u0, rfl⟩ := I_of p0; obtain ⟨z1, l1, u1, rfl⟩ := I_of p1
  exact PW_of (Z := (fun _ => True)) hC h62 (j_rank hC hs ht hR l0 u0 l1 u1) ag2 trivial
theorem W_firstFree (h : LINV sv t m) (ht : t + 2 ≤ 600) (p0 p1 p2 : Int32) : qty m sv = (1, 7, 0) ∧ qty m (sv + 62) = (3, 0, 1) ∧ ∃ r m1, F_X6_firstFree sv p0 p1 p2 m = some (r, m1) ∧ KP sv m m1 ∧ (∀ v, r = .ok v → True ∧ rok (AWL sv t (F_X7_firstFree (sv + 20) p0 p1 p2) (fun _ => True)) (.ok (some (.int (I 0)))) (sal m1 (sv + 62) 0 v.toInt64)) ∧ (∀ e0, r = .error e0 → ∃ cd, mpE e0 = some cd ∧ ∀ n, qtop m1 ≤ n → rok (AWL sv t (F_X7_firstFree (sv + 20) p0 p1 p2) (fun _ => True)) (.ok (some (.int (I cd)))) (stop m1 n)) := by
  obtain ⟨G, S, hC, hs, hR, h62⟩ := h
  obtain ⟨z0, l0, u0, rfl⟩ := I_of p0; obtain ⟨z1, l1, u1, rfl⟩ := I_of p1; obtain ⟨z2, l2, u2, rfl⟩ := I_of p2
  have hj := j_firstFree hC hs ht hR l0 u0 l1 u1 l2 u2
  by_cases g : gF z0 z1 z2 = true
  · rw [if_pos g] at hj
    obtain ⟨r, hj⟩ := hj
    exact PW_of (Z := (fun _ => True)) hC h62 hj ag_ok trivial
  · rw [if_neg g] at hj
    exact PW_of (Z := (fun _ => True)) hC h62 hj (ag_er (n := 2) (e := 1) rfl ⟨by decide, by decide⟩) trivial
theorem W_firstFreeByHours (h : LINV sv t m) (ht : t + 2 ≤ 600) (p0 p1 p2 : Int32) : qty m sv = (1, 7, 0) ∧ qty m (sv + 62) = (3, 0, 1) ∧ ∃ r m1, F_X6_firstFreeByHours sv p0 p1 p2 m = some (r, m1) ∧ KP sv m m1 ∧ (∀ v, r = .ok v → True ∧ rok (AWL sv t (F_X7_firstFreeByHours (sv + 20) p0 p1 p2) (fun _ => True)) (.ok (some (.int (I 0)))) (sal m1 (sv + 62) 0 v.toInt64)) ∧ (∀ e0, r = .error e0 → ∃ cd, mpE e0 = some cd ∧ ∀ n, qtop m1 ≤ n → rok (AWL sv t (F_X7_firstFreeByHours (sv + 20) p0 p1 p2) (fun _ => True)) (.ok (some (.int (I cd)))) (stop m1 n)) := by
  obtain ⟨G, S, hC, hs, hR, h62⟩ := h
  obtain ⟨z0, l0, u0, rfl⟩ := I_of p0; obtain ⟨z1, l1, u1, rfl⟩ := I_of p1; obtain ⟨z2, l2, u2, rfl⟩ := I_of p2
  have hj := j_firstFreeByHours hC hs ht hR l0 u0 l1 u1 l2 u2
  by_cases g : gF z0 z1 z2 = true
  · rw [if_pos g] at hj
    obtain ⟨r, hj⟩ := hj
    exact PW_of (Z := (fun _ => True)) hC h62 hj ag_ok trivial
  · rw [if_neg g] at hj
    exact PW_of (Z := (fun _ => True)) hC h62 hj (ag_er (n := 2) (e := 1) rfl ⟨by decide, by decide⟩) trivial
theorem W_mark (h : LINV sv t m) (ht : t + 2 ≤ 600) (p0 : Int32) : qty m sv = (1, 7, 0) ∧ qty m (sv + 62) = (3, 0, 1) ∧ ∃ r m1, F_X6_mark sv p0 m = some (r, m1) ∧ KP sv m m1 ∧ (∀ v, r = .ok v → True ∧ rok (AWL sv t (F_X7_mark (sv + 20) p0) (fun _ => True)) (.ok (some (.int (I 0)))) (sal m1 (sv + 62) 0 v.toInt64)) ∧ (∀ e0, r = .error e0 → ∃ cd, mpD e0 = some cd ∧ ∀ n, qtop m1 ≤ n → rok (AWL sv t (F_X7_mark (sv + 20) p0) (fun _ => True)) (.ok (some (.int (I cd)))) (stop m1 n)) := by
  obtain ⟨G, S, hC, hs, hR, h62⟩ := h
  obtain ⟨z0, l0, u0, rfl⟩ := I_of p0
  exact PW_of (Z := (fun _ => True)) hC h62 (j_mark hC hs ht hR l0 u0) ag1 trivial
theorem W_changes (h : LINV sv t m) (ht : t + 2 ≤ 600) (p0 p1 : Int32) : qty m sv = (1, 7, 0) ∧ qty m (sv + 62) = (3, 0, 1) ∧ ∃ r m1, F_X6_changes sv p0 p1 m = some (r, m1) ∧ KP sv m m1 ∧ (∀ v, r = .ok v → True ∧ rok (AWL sv t (F_X7_changes (sv + 20) p0 p1) (fun _ => True)) (.ok (some (.int (I 0)))) (sal m1 (sv + 62) 0 v.toInt64)) ∧ (∀ e0, r = .error e0 → ∃ cd, mpA e0 = some cd ∧ ∀ n, qtop m1 ≤ n → rok (AWL sv t (F_X7_changes (sv + 20) p0 p1) (fun _ => True)) (.ok (some (.int (I cd)))) (stop m1 n)) := by
  obtain ⟨G, S, hC, hs, hR, h62⟩ := h
  obtain ⟨z0, l0, u0, rfl⟩ := I_of p0; obtain ⟨z1, l1, u1, rfl⟩ := I_of p1
  exact PW_of (Z := (fun _ => True)) hC h62 (j_changes hC hs ht hR l0 u0 l1 u1) ag3 trivial
theorem W_changeAt (h : LINV sv t m) (ht : t + 2 ≤ 600) (p0 p1 p2 : Int32) : qty m sv = (1, 7, 0) ∧ qty m (sv + 62) = (3, 0, 1) ∧ ∃ r m1, F_X6_changeAt sv p0 p1 p2 m = some (r, m1) ∧ KP sv m m1 ∧ (∀ v, r = .ok v → True ∧ rok (AWL sv t (F_X7_changeAt (sv + 20) p0 p1 p2) (fun _ => True)) (.ok (some (.int (I 0)))) (sal m1 (sv + 62) 0 v.toInt64)) ∧ (∀ e0, r = .error e0 → ∃ cd, mpA e0 = some cd ∧ ∀ n, qtop m1 ≤ n → rok (AWL sv t (F_X7_changeAt (sv + 20) p0 p1 p2) (fun _ => True)) (.ok (some (.int (I cd)))) (stop m1 n)) := by
  obtain ⟨G, S, hC, hs, hR, h62⟩ := h
  obtain ⟨z0, l0, u0, rfl⟩ := I_of p0; obtain ⟨z1, l1, u1, rfl⟩ := I_of p1; obtain ⟨z2, l2, u2, rfl⟩ := I_of p2
  exact PW_of (Z := (fun _ => True)) hC h62 (j_changeAt hC hs ht hR l0 u0 l1 u1 l2 u2) (ag_chg rfl) trivial
/-- a state of the law behind a pair of calls whose answer is w, with e thrown -/
theorem AWL_mk {y : QX Int32} {P : PX Int32} {w : Int32} {e : Int} {m2 : QM} (hC : CR sv G S m2) (hs : SI t S) (ht : t + 1 ≤ 600) (hR : RM (sv + 20) S m2) (h62 : qty m2 (sv + 62) = (3, 0, 1)) (hy : SIM (sv + 20) y P) (hP : P S = some (w, setf S 45 e)) (he : 0 ≤ e ∧ e ≤ 3) (hq : e = 0 → qal m2 (sv + 62) 0 = w.toInt64) : AWL sv t y (fun _ => True) (some (.int (I e))) m2 :=
  ⟨e, w, G, _, S, rfl, he, hC.thr e, (hs.up (by omega) ht).thr _, (show (if 45 = 45 then e else mf S 45) = e from if_pos rfl), hR, h62, hq, trivial, fun m9 h9 => hy S m9 w _ h9 hP⟩
theorem W_lineLength (hC : CR sv G S m) (hs : SI t S) (hR : RM (sv + 20) S m) (h62 : qty m (sv + 62) = (3, 0, 1)) (ht : t + 2 ≤ 600) {kk : Int} (kl : -2147483648 ≤ kk) (kh : kk < 2147483648) : CR sv G S m ∧ SI t S ∧ t ≤ 600 ∧ (-2147483648 ≤ kk ∧ kk < 2147483648) ∧ qty m (sv + 62) = (3, 0, 1) ∧ (if gK S kk = true then ∀ m', GROW m m' → rok (AWL sv t (F_X7_lineLength (sv + 20) (I kk)) (fun _ => True)) (.ok (some (.int (I 0)))) (sal m' (sv + 62) 0 (I (((lineL S kk).length : Nat) : Int)).toInt64) else ∀ n, qtop m ≤ n → rok (AWL sv t (F_X7_lineLength (sv + 20) (I kk)) (fun _ => True)) (.ok (some (.int (I 1)))) (stop m n)) := by
  refine ⟨hC, hs, by omega, ⟨kl, kh⟩, h62, ?_⟩
  have hP := e_lineLength hs.wr kl kh
  by_cases g : gK S kk = true
  · rw [if_pos g] at hP ⊢
    intro m' hg
    have hk : KP sv m m' := hg.kp hC.cf.top
    exact ⟨_, rfl, AWL_mk (hC.grow hg).salr hs (by omega) (hR.kp hk).salr (hk.ty62 h62) (sm_X7_lineLength _ _) hP ⟨by decide, by decide⟩ (fun _ => by show va_up (qal m') (sv + 62) (va_up (qal m' (sv + 62)) 0 _) (sv + 62) 0 = _; rw [va_up_same, va_up_same])⟩
  · rw [if_neg g] at hP ⊢
    intro n hn
    exact ⟨_, rfl, AWL_mk (hC.grow (GROW.stopr hn)) hs (by omega) hR.stopr h62 (sm_X7_lineLength _ _) hP ⟨by decide, by decide⟩ (fun q => absurd q (by decide))⟩
theorem W_lineChar (hC : CR sv G S m) (hs : SI t S) (hR : RM (sv + 20) S m) (h62 : qty m (sv + 62) = (3, 0, 1)) (ht : t + 2 ≤ 600) {kk pl : Int} (kl : -2147483648 ≤ kk) (kh : kk < 2147483648) (pll : -2147483648 ≤ pl) (plh : pl < 2147483648) : CR sv G S m ∧ SI t S ∧ t ≤ 600 ∧ (-2147483648 ≤ kk ∧ kk < 2147483648) ∧ (-2147483648 ≤ pl ∧ pl < 2147483648) ∧ qty m (sv + 62) = (3, 0, 1) ∧ ∀ m', GROW m m' → (if (gK S kk && decide (0 ≤ pl ∧ pl < (lineL S kk).length)) = true then rok (AWL sv t (F_X7_lineChar (sv + 20) (I kk) (I pl)) (fun _ => True)) (.ok (some (.int (I 0)))) (sal m' (sv + 62) 0 (I ((lineL S kk).getD pl.toNat 0)).toInt64) else ∀ n, qtop m' ≤ n → rok (AWL sv t (F_X7_lineChar (sv + 20) (I kk) (I pl)) (fun _ => True)) (.ok (some (.int (I 1)))) (stop m' n)) := by
  refine ⟨hC, hs, by omega, ⟨kl, kh⟩, ⟨pll, plh⟩, h62, fun m' hg => ?_⟩
  have hP := e_lineChar hs.wr kl kh pll plh
  have hk : KP sv m m' := hg.kp hC.cf.top
  by_cases g : (gK S kk && decide (0 ≤ pl ∧ pl < (lineL S kk).length)) = true
  · rw [if_pos g] at hP ⊢
    exact ⟨_, rfl, AWL_mk (hC.grow hg).salr hs (by omega) (hR.kp hk).salr (hk.ty62 h62) (sm_X7_lineChar _ _ _) hP ⟨by decide, by decide⟩ (fun _ => by show va_up (qal m') (sv + 62) (va_up (qal m' (sv + 62)) 0 _) (sv + 62) 0 = _; rw [va_up_same, va_up_same])⟩
  · rw [if_neg g] at hP ⊢
    intro n hn
    exact ⟨_, rfl, AWL_mk ((hC.grow hg).grow (GROW.stopr hn)) hs (by omega) (hR.kp hk).stopr (hk.ty62 h62) (sm_X7_lineChar _ _ _) hP ⟨by decide, by decide⟩ (fun q => absurd q (by decide))⟩
end C69b
