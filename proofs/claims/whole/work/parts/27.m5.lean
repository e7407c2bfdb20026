/-! a next version -/
def toOf (S : MS) (i : Int) : Int := if ma S 8 (ma S 5 i) = 0 then ma S 5 i else mf S 7
/-- a version's place written anew -/
def setv (S : MS) (v : Int) (ri : Nat → Int) (rl : Nat → Int64) (rd : Int → Int) : MS :=
  (fun J y => if (9 ≤ J ∧ J ≤ 19) ∧ y = v then ri J else if J = 24 ∧ 60 * v ≤ y ∧ y < 60 * v + 60 then rd (y - 60 * v) else ma S J y, fun J y => if (20 ≤ J ∧ J ≤ 22) ∧ y = v then rl J else ml S J y, S.2.2)
theorem ma_setv (S : MS) (v : Int) (ri : Nat → Int) (rl : Nat → Int64) (rd : Int → Int) (J : Nat) (y : Int) : ma (setv S v ri rl rd) J y = if (9 ≤ J ∧ J ≤ 19) ∧ y = v then ri J else if J = 24 ∧ 60 * v ≤ y ∧ y < 60 * v + 60 then rd (y - 60 * v) else ma S J y := rfl
theorem ml_setv (S : MS) (v : Int) (ri : Nat → Int) (rl : Nat → Int64) (rd : Int → Int) (J : Nat) (y : Int) : ml (setv S v ri rl rd) J y = if (20 ≤ J ∧ J ≤ 22) ∧ y = v then rl J else ml S J y := rfl
theorem mf_setv (S : MS) (v : Int) (ri : Nat → Int) (rl : Nat → Int64) (rd : Int → Int) (J : Nat) : mf (setv S v ri rl rd) J = mf S J := rfl
def updi (ri : Nat → Int) (K : Nat) (x : Int) : Nat → Int := fun J => if J = K then x else ri J
def updl (rl : Nat → Int64) (K : Nat) (x : Int64) : Nat → Int64 := fun J => if J = K then x else rl J
def updd (rd : Int → Int) (d x : Int) : Int → Int := fun e => if e = d then x else rd e
theorem seta_setv {S : MS} {v : Int} {ri : Nat → Int} {rl : Nat → Int64} {rd : Int → Int} {K : Nat} {x : Int} (h : 9 ≤ K ∧ K ≤ 19) : seta (setv S v ri rl rd) K v x = setv S v (updi ri K x) rl rd := ms_ext (fun J y => by
  show (if J = K ∧ y = v then x else if (9 ≤ J ∧ J ≤ 19) ∧ y = v then ri J else if J = 24 ∧ 60 * v ≤ y ∧ y < 60 * v + 60 then rd (y - 60 * v) else ma S J y) = if (9 ≤ J ∧ J ≤ 19) ∧ y = v then (if J = K then x else ri J) else if J = 24 ∧ 60 * v ≤ y ∧ y < 60 * v + 60 then rd (y - 60 * v) else ma S J y
  by_cases c : J = K
  · subst c
    by_cases d : y = v
    · rw [if_pos ⟨rfl, d⟩, if_pos ⟨h, d⟩, if_pos rfl]
    · rw [if_neg (fun q => d q.2), if_neg (fun q : (9 ≤ J ∧ J ≤ 19) ∧ y = v => d q.2), if_neg (fun q : (9 ≤ J ∧ J ≤ 19) ∧ y = v => d q.2)]
  · rw [if_neg (fun q => c q.1), if_neg c]) (fun _ _ => rfl) (fun _ => rfl)
theorem setl_setv {S : MS} {v : Int} {ri : Nat → Int} {rl : Nat → Int64} {rd : Int → Int} {K : Nat} {x : Int64} (h : 20 ≤ K ∧ K ≤ 22) : setl (setv S v ri rl rd) K v x = setv S v ri (updl rl K x) rd := ms_ext (fun _ _ => rfl) (fun J y => by
  show (if J = K ∧ y = v then x else if (20 ≤ J ∧ J ≤ 22) ∧ y = v then rl J else ml S J y) = if (20 ≤ J ∧ J ≤ 22) ∧ y = v then (if J = K then x else rl J) else ml S J y
  by_cases c : J = K
  · subst c
    by_cases d : y = v
    · rw [if_pos ⟨rfl, d⟩, if_pos ⟨h, d⟩, if_pos rfl]
    · rw [if_neg (fun q => d q.2), if_neg (fun q => d q.2), if_neg (fun q => d q.2)]
  · rw [if_neg (fun q => c q.1), if_neg c]) (fun _ => rfl)
theorem setd_setv {S : MS} {v : Int} {ri : Nat → Int} {rl : Nat → Int64} {rd : Int → Int} {d x : Int} (h : 0 ≤ d) (h' : d < 60) : seta (setv S v ri rl rd) 24 (60 * v + d) x = setv S v ri rl (updd rd d x) := ms_ext (fun J y => by
  show (if J = 24 ∧ y = 60 * v + d then x else if (9 ≤ J ∧ J ≤ 19) ∧ y = v then ri J else if J = 24 ∧ 60 * v ≤ y ∧ y < 60 * v + 60 then rd (y - 60 * v) else ma S J y) = if (9 ≤ J ∧ J ≤ 19) ∧ y = v then ri J else if J = 24 ∧ 60 * v ≤ y ∧ y < 60 * v + 60 then (if y - 60 * v = d then x else rd (y - 60 * v)) else ma S J y
  by_cases c : J = 24
  · subst c
    rw [if_neg (show ¬ ((9 ≤ 24 ∧ 24 ≤ 19) ∧ y = v) by omega), if_neg (show ¬ ((9 ≤ 24 ∧ 24 ≤ 19) ∧ y = v) by omega)]
    by_cases e : y = 60 * v + d
    · rw [if_pos ⟨rfl, e⟩, if_pos (by omega), if_pos (by omega)]
    · rw [if_neg (fun q => e q.2), if_neg (show ¬ (y - 60 * v = d) by omega)]
  · rw [if_neg (fun q => c q.1), if_neg (show ¬ (J = 24 ∧ 60 * v ≤ y ∧ y < 60 * v + 60) from fun q => c q.1), if_neg (show ¬ (J = 24 ∧ 60 * v ≤ y ∧ y < 60 * v + 60) from fun q => c q.1)]) (fun _ _ => rfl) (fun _ => rfl)
theorem setv_id (S : MS) (v : Int) : S = setv S v (fun J => ma S J v) (fun J => ml S J v) (fun d => ma S 24 (60 * v + d)) := ms_ext (fun J y => by
  rw [ma_setv]
  by_cases c : (9 ≤ J ∧ J ≤ 19) ∧ y = v
  · rw [if_pos c, c.2]
  · rw [if_neg c]
    by_cases d : J = 24 ∧ 60 * v ≤ y ∧ y < 60 * v + 60
    · rw [if_pos d, d.1, show 60 * v + (y - 60 * v) = y by omega]
    · rw [if_neg d]) (fun J y => by
  rw [ml_setv]
  by_cases c : (20 ≤ J ∧ J ≤ 22) ∧ y = v
  · rw [if_pos c, c.2]
  · rw [if_neg c]) (fun _ => rfl)
/-- the version that is like that of now, one on -/
def rI (S : MS) (i : Int) : Nat → Int := fun J => if J = 9 then ma S 9 (ma S 5 i) + 1 else ma S J (ma S 5 i)
def rL (S : MS) (i : Int) : Nat → Int64 := fun J => ml S J (ma S 5 i)
def rD (S : MS) (i : Int) : Int → Int := fun d => ma S 24 (60 * ma S 5 i + d)
def sNext (S : MS) (i : Int) : MS := setf (setv S (toOf S i) (rI S i) (rL S i) (rD S i)) 7 (if ma S 8 (ma S 5 i) = 0 then mf S 7 else mf S 7 + 1)
theorem dayloop {S0 : MS} {v u : Int} {ri : Nat → Int} {rl : Nat → Int64} (f : Int → Int) (hv : 0 ≤ v) (hv' : v < 160) (hu : 0 ≤ u) (hu' : u < 160) (hf : ∀ d, 0 ≤ d → d < 60 → -2147483648 ≤ f d ∧ f d < 2147483648) (hr : ∀ j : Nat, j < 60 → ma (setv S0 v ri rl (fun d => if d < j then f d else ma S0 24 (60 * v + d))) 24 (60 * u + j) = f j) :
    pl 2000 (fun (s122 : Int32) => pp (decide (s122 < (60 : Int32)))) (fun (s122 : Int32) => pb (pai 24 (((60 : Int32) * I u) + s122)) (fun v139 => pb (psai 24 (((60 : Int32) * I v) + s122) v139) (fun _ => pp (s122 + 1)))) (0 : Int32) (setv S0 v ri rl (fun d => ma S0 24 (60 * v + d))) = some (I 60, setv S0 v ri rl (fun d => if d < 60 then f d else ma S0 24 (60 * v + d))) := by
  have e0 : setv S0 v ri rl (fun d => ma S0 24 (60 * v + d)) = setv S0 v ri rl (fun d => if d < (0 : Nat) then f d else ma S0 24 (60 * v + d)) := ms_ext (fun J y => by
    rw [ma_setv, ma_setv]
    by_cases c : J = 24 ∧ 60 * v ≤ y ∧ y < 60 * v + 60
    · simp only [if_neg (show ¬ (y - 60 * v < ((0 : Nat) : Int)) by omega)]
    · rw [if_neg c, if_neg c]) (fun _ _ => rfl) (fun _ => rfl)
  rw [e0]
  refine (pl_run (fun j => I j) (fun j => setv S0 v ri rl (fun d => if d < (j : Int) then f d else ma S0 24 (60 * v + d))) 60 2000 (fun j hj => ?_) (fun j hj => ?_) ?_ (by omega))
  · simp (disch := omega) only [gl0, gl1, gl2, gl3, gl4, gl5, gl6, gl7, gl8, gl10, gl12, gl16, gl23, gl24, gl28, gl31, gl32, gl40, gl48, gl59, gl60, gl61, gl63, gl97, gl100, gl127, gl150, gl160, gl305, gl1439, gl1500, gl1600, gl1649, gl1650, gl2000, gl2048, gl9600, I_neg, I_add, I_sub, I_mul, pb_pp, pb_assoc, pb_pz, pz_b2i, pp_ap, r_gi, g_gi, w_si, b2i_ne, b2i_eq, decide_eq_true_eq, Bool.not_eq_true', decide_eq_false_iff_not, Bool.not_not, Decidable.not_not, not_true_eq_false, not_false_eq_true, Bool.decide_eq_true, decide_not, Bool.not_eq_false, Bool.not_eq_true, Bool.false_eq_true, if_true, if_false, and_self, reduceCtorEq, hb_eq, hb_eq0, hl_eq, I_inj, I_lt, I_le, Int.reduceNeg, ma_setf, ml_setf, mf_setf, ma_seta, ml_seta, mf_seta, ma_setl, ml_setl, mf_setl, gr0, gw0, ga0, gr1, gw1, ga1, gr2, gw2, ga2, gr4, gw4, ga4, gr5, gw5, ga5, gr6, gw6, ga6, gr8, gw8, ga8, gr9, gw9, ga9, gr10, gw10, ga10, gr11, gw11, ga11, gr12, gw12, ga12, gr13, gw13, ga13, gr14, gw14, ga14, gr15, gw15, ga15, gr16, gw16, ga16, gr17, gw17, ga17, gr18, gw18, ga18, gr19, gw19, ga19, gr20, gw20, ga20, gr21, gw21, ga21, gr22, gw22, ga22, gr23, gw23, ga23, gr24, gw24, ga24, gr25, gw25, ga25, gr26, gw26, ga26, gr27, gw27, ga27, gr28, gw28, ga28, gr31, gw31, ga31, gr32, gw32, ga32, gr33, gw33, ga33, gr34, gw34, ga34, gr35, gw35, ga35, gr36, gw36, ga36, gr37, gw37, ga37, gr38, gw38, ga38, gr39, gw39, ga39, gr40, gw40, ga40, gr41, gw41, ga41, gr42, gw42, ga42, gr43, gw43, ga43, gr44, gw44, ga44]
    rw [decide_eq_true (by omega)]
  · have h1 := hr j hj
    have h2 := hf j (by omega) (by omega)
    have e1 : ((j + 1 : Nat) : Int) = j + 1 := rfl
    try simp only
    rw [e1]
    generalize hS : setv S0 v ri rl (fun d => if d < (j : Int) then f d else ma S0 24 (60 * v + d)) = Sj at h1
    simp (disch := omega) only [gl0, gl1, gl2, gl3, gl4, gl5, gl6, gl7, gl8, gl10, gl12, gl16, gl23, gl24, gl28, gl31, gl32, gl40, gl48, gl59, gl60, gl61, gl63, gl97, gl100, gl127, gl150, gl160, gl305, gl1439, gl1500, gl1600, gl1649, gl1650, gl2000, gl2048, gl9600, I_neg, I_add, I_sub, I_mul, pb_pp, pb_assoc, pb_pz, pz_b2i, pp_ap, r_gi, g_gi, w_si, b2i_ne, b2i_eq, decide_eq_true_eq, Bool.not_eq_true', decide_eq_false_iff_not, Bool.not_not, Decidable.not_not, not_true_eq_false, not_false_eq_true, Bool.decide_eq_true, decide_not, Bool.not_eq_false, Bool.not_eq_true, Bool.false_eq_true, if_true, if_false, and_self, reduceCtorEq, hb_eq, hb_eq0, hl_eq, I_inj, I_lt, I_le, Int.reduceNeg, ma_setf, ml_setf, mf_setf, ma_seta, ml_seta, mf_seta, ma_setl, ml_setl, mf_setl, gr0, gw0, ga0, gr1, gw1, ga1, gr2, gw2, ga2, gr4, gw4, ga4, gr5, gw5, ga5, gr6, gw6, ga6, gr8, gw8, ga8, gr9, gw9, ga9, gr10, gw10, ga10, gr11, gw11, ga11, gr12, gw12, ga12, gr13, gw13, ga13, gr14, gw14, ga14, gr15, gw15, ga15, gr16, gw16, ga16, gr17, gw17, ga17, gr18, gw18, ga18, gr19, gw19, ga19, gr20, gw20, ga20, gr21, gw21, ga21, gr22, gw22, ga22, gr23, gw23, ga23, gr24, gw24, ga24, gr25, gw25, ga25, gr26, gw26, ga26, gr27, gw27, ga27, gr28, gw28, ga28, gr31, gw31, ga31, gr32, gw32, ga32, gr33, gw33, ga33, gr34, gw34, ga34, gr35, gw35, ga35, gr36, gw36, ga36, gr37, gw37, ga37, gr38, gw38, ga38, gr39, gw39, ga39, gr40, gw40, ga40, gr41, gw41, ga41, gr42, gw42, ga42, gr43, gw43, ga43, gr44, gw44, ga44, h1]
    rw [← hS, setd_setv (by omega) (by omega)]
    congr 3
    funext d
    unfold updd
    by_cases c : d = j
    · rw [if_pos c, if_pos (by omega), c]
    · rw [if_neg c]
      show (if d < (j : Int) then f d else ma S0 24 (60 * v + d)) = _
      by_cases e : d < (j : Int)
      · rw [if_pos e, if_pos (by omega)]
      · rw [if_neg e, if_neg (by omega)]
  · simp (disch := omega) only [gl0, gl1, gl2, gl3, gl4, gl5, gl6, gl7, gl8, gl10, gl12, gl16, gl23, gl24, gl28, gl31, gl32, gl40, gl48, gl59, gl60, gl61, gl63, gl97, gl100, gl127, gl150, gl160, gl305, gl1439, gl1500, gl1600, gl1649, gl1650, gl2000, gl2048, gl9600, I_neg, I_add, I_sub, I_mul, pb_pp, pb_assoc, pb_pz, pz_b2i, pp_ap, r_gi, g_gi, w_si, b2i_ne, b2i_eq, decide_eq_true_eq, Bool.not_eq_true', decide_eq_false_iff_not, Bool.not_not, Decidable.not_not, not_true_eq_false, not_false_eq_true, Bool.decide_eq_true, decide_not, Bool.not_eq_false, Bool.not_eq_true, Bool.false_eq_true, if_true, if_false, and_self, reduceCtorEq, hb_eq, hb_eq0, hl_eq, I_inj, I_lt, I_le, Int.reduceNeg, ma_setf, ml_setf, mf_setf, ma_seta, ml_seta, mf_seta, ma_setl, ml_setl, mf_setl, gr0, gw0, ga0, gr1, gw1, ga1, gr2, gw2, ga2, gr4, gw4, ga4, gr5, gw5, ga5, gr6, gw6, ga6, gr8, gw8, ga8, gr9, gw9, ga9, gr10, gw10, ga10, gr11, gw11, ga11, gr12, gw12, ga12, gr13, gw13, ga13, gr14, gw14, ga14, gr15, gw15, ga15, gr16, gw16, ga16, gr17, gw17, ga17, gr18, gw18, ga18, gr19, gw19, ga19, gr20, gw20, ga20, gr21, gw21, ga21, gr22, gw22, ga22, gr23, gw23, ga23, gr24, gw24, ga24, gr25, gw25, ga25, gr26, gw26, ga26, gr27, gw27, ga27, gr28, gw28, ga28, gr31, gw31, ga31, gr32, gw32, ga32, gr33, gw33, ga33, gr34, gw34, ga34, gr35, gw35, ga35, gr36, gw36, ga36, gr37, gw37, ga37, gr38, gw38, ga38, gr39, gw39, ga39, gr40, gw40, ga40, gr41, gw41, ga41, gr42, gw42, ga42, gr43, gw43, ga43, gr44, gw44, ga44]
    rw [decide_eq_false (by omega)]
theorem stA {α : Type} {T0 : MS} {v u x : Int} {ri : Nat → Int} {rl : Nat → Int64} {rd : Int → Int} {K : Nat} {X : PX α} (hk : kty K = (2, 0, 160)) (hK : 9 ≤ K ∧ K ≤ 19) (hv : 0 ≤ v) (hv' : v < 160) (hu : 0 ≤ u) (hu' : u < 160) (h2 : -2147483648 ≤ x) (h3 : x < 2147483648) (hr : ma (setv T0 v ri rl rd) K u = x) :
    pb (pai K (I u)) (fun w => pb (psai K (I v) w) (fun _ => X)) (setv T0 v ri rl rd) = X (setv T0 v (updi ri K x) rl rd) := by
  rw [pb_ok (ra_gen hk (by decide) hu hu'), hr, pb_ok (wa_gen hk (by decide) hv hv' h2 h3), seta_setv hK]
theorem stZ {α : Type} {T0 : MS} {v u x : Int} {ri : Nat → Int} {rl : Nat → Int64} {rd : Int → Int} {K : Nat} {X : PX α} (hk : kty K = (2, 1, 160)) (hK : 9 ≤ K ∧ K ≤ 19) (hv : 0 ≤ v) (hv' : v < 160) (hu : 0 ≤ u) (hu' : u < 160) (h2 : x = 0 ∨ x = 1) (hr : ma (setv T0 v ri rl rd) K u = x) :
    pb (pai K (I u)) (fun w => pb (psaz K (I v) w) (fun _ => X)) (setv T0 v ri rl rd) = X (setv T0 v (updi ri K x) rl rd) := by
  rw [pb_ok (ra_gen hk (by decide) hu hu'), hr, pb_ok (wz_gen hk (by decide) hv hv' h2), seta_setv hK]
theorem stL {α : Type} {T0 : MS} {v u : Int} {x : Int64} {ri : Nat → Int} {rl : Nat → Int64} {rd : Int → Int} {K : Nat} {X : PX α} (hk : kty K = (3, 0, 160)) (hK : 20 ≤ K ∧ K ≤ 22) (hv : 0 ≤ v) (hv' : v < 160) (hu : 0 ≤ u) (hu' : u < 160) (hr : ml (setv T0 v ri rl rd) K u = x) :
    pb (pal K (I u)) (fun w => pb (psal K (I v) w) (fun _ => X)) (setv T0 v ri rl rd) = X (setv T0 v ri (updl rl K x) rd) := by
  rw [pb_ok (rl_gen hk (by decide) hu hu'), hr, pb_ok (wl_gen hk (by decide) hv hv'), setl_setv hK]
theorem nextAll {T0 S : MS} {v u : Int} (hv : 0 ≤ v) (hv' : v < 160) (hu : 0 ≤ u) (hu' : u < 160) (hab : ∀ K, K < 45 → ∀ y, ma T0 K y = ma S K y) (hlb : ∀ K y, ml T0 K y = ml S K y) (hR : ∀ K, 9 ≤ K → K ≤ 19 → -2147483648 ≤ ma S K u ∧ ma S K u < 2147483647) (hz : ma S 19 u = 0 ∨ ma S 19 u = 1) (hd : ∀ d, 0 ≤ d → d < 60 → -2147483648 ≤ ma S 24 (60 * u + d) ∧ ma S 24 (60 * u + d) < 2147483648) :
    (pb (pai 9 (I u)) (fun v25 => pb (psai 9 (I v) (v25 + (1 : Int32))) (fun _ => pb (pai 10 (I u)) (fun v110 => pb (psai 10 (I v) v110) (fun _ => pb (pai 11 (I u)) (fun v111 => pb (psai 11 (I v) v111) (fun _ => pb (pai 12 (I u)) (fun v112 => pb (psai 12 (I v) v112) (fun _ => pb (pai 13 (I u)) (fun v113 => pb (psai 13 (I v) v113) (fun _ => pb (pai 14 (I u)) (fun v114 => pb (psai 14 (I v) v114) (fun _ => pb (pai 15 (I u)) (fun v115 => pb (psai 15 (I v) v115) (fun _ => pb (pai 16 (I u)) (fun v116 => pb (psai 16 (I v) v116) (fun _ => pb (pai 17 (I u)) (fun v117 => pb (psai 17 (I v) v117) (fun _ => pb (pai 18 (I u)) (fun v118 => pb (psai 18 (I v) v118) (fun _ => pb (pai 19 (I u)) (fun v119 => pb (psaz 19 (I v) v119) (fun _ => pb (pal 20 (I u)) (fun v120 => pb (psal 20 (I v) v120) (fun _ => pb (pal 21 (I u)) (fun v121 => pb (psal 21 (I v) v121) (fun _ => pb (pal 22 (I u)) (fun v122 => pb (psal 22 (I v) v122) (fun _ => pb (pl 2000 (fun (s122 : Int32) => pp (decide (s122 < (60 : Int32)))) (fun (s122 : Int32) => pb (pai 24 (((60 : Int32) * I u) + s122)) (fun v139 => pb (psai 24 (((60 : Int32) * I v) + s122) v139) (fun _ => pp (s122 + 1)))) (0 : Int32)) (fun s140 => pp (I v))))))))))))))))))))))))))))))) T0
      = some (I v, setv T0 v (fun J => if J = 9 then ma S 9 u + 1 else ma S J u) (fun J => ml S J u) (fun d => ma S 24 (60 * u + d))) := by
  have hr9 := hR 9 (by omega) (by omega)
  rw [setv_id T0 v]
  have rd : ∀ (ri : Nat → Int) (rl : Nat → Int64) (K : Nat), 9 ≤ K → K ≤ 19 → (u = v → ri K = ma S K u) → ma (setv T0 v ri rl (fun d => ma T0 24 (60 * v + d))) K u = ma S K u := fun ri rl K h1 h2 h3 => by
    rw [ma_setv]
    by_cases c : u = v
    · rw [if_pos ⟨⟨h1, h2⟩, c⟩, h3 c]
    · rw [if_neg (fun q => c q.2), if_neg (by omega), hab K (by omega)]
  have rdl : ∀ (ri : Nat → Int) (rl : Nat → Int64) (K : Nat), 20 ≤ K → K ≤ 22 → (u = v → rl K = ml S K u) → ml (setv T0 v ri rl (fun d => ma T0 24 (60 * v + d))) K u = ml S K u := fun ri rl K h1 h2 h3 => by
    rw [ml_setv]
    by_cases c : u = v
    · rw [if_pos ⟨⟨h1, h2⟩, c⟩, h3 c]
    · rw [if_neg (fun q => c q.2), hlb]
  rw [pb_ok (ra_gen (n := 160) (K := 9) rfl (by decide) hu hu'), rd _ _ 9 (by omega) (by omega) (fun c => by rw [← c]; exact hab 9 (by omega) u), show I (ma S 9 u) + (1 : Int32) = I (ma S 9 u + 1) from by rw [gl1, I_add], pb_ok (wa_gen (n := 160) (K := 9) rfl (by decide) hv hv' (by omega) (by omega)), seta_setv (by omega)]
  rw [stA (K := 10) (x := ma S 10 u) rfl (by omega) hv hv' hu hu' (hR 10 (by omega) (by omega)).1 (Int.lt_trans (hR 10 (by omega) (by omega)).2 (by decide)) (rd _ _ 10 (by omega) (by omega) (fun c => by (try simp only [updi, Nat.reduceEqDiff, if_false]); rw [← c]; exact hab 10 (by omega) u))]
  rw [stA (K := 11) (x := ma S 11 u) rfl (by omega) hv hv' hu hu' (hR 11 (by omega) (by omega)).1 (Int.lt_trans (hR 11 (by omega) (by omega)).2 (by decide)) (rd _ _ 11 (by omega) (by omega) (fun c => by (try simp only [updi, Nat.reduceEqDiff, if_false]); rw [← c]; exact hab 11 (by omega) u))]
  rw [stA (K := 12) (x := ma S 12 u) rfl (by omega) hv hv' hu hu' (hR 12 (by omega) (by omega)).1 (Int.lt_trans (hR 12 (by omega) (by omega)).2 (by decide)) (rd _ _ 12 (by omega) (by omega) (fun c => by (try simp only [updi, Nat.reduceEqDiff, if_false]); rw [← c]; exact hab 12 (by omega) u))]
  rw [stA (K := 13) (x := ma S 13 u) rfl (by omega) hv hv' hu hu' (hR 13 (by omega) (by omega)).1 (Int.lt_trans (hR 13 (by omega) (by omega)).2 (by decide)) (rd _ _ 13 (by omega) (by omega) (fun c => by (try simp only [updi, Nat.reduceEqDiff, if_false]); rw [← c]; exact hab 13 (by omega) u))]
  rw [stA (K := 14) (x := ma S 14 u) rfl (by omega) hv hv' hu hu' (hR 14 (by omega) (by omega)).1 (Int.lt_trans (hR 14 (by omega) (by omega)).2 (by decide)) (rd _ _ 14 (by omega) (by omega) (fun c => by (try simp only [updi, Nat.reduceEqDiff, if_false]); rw [← c]; exact hab 14 (by omega) u))]
  rw [stA (K := 15) (x := ma S 15 u) rfl (by omega) hv hv' hu hu' (hR 15 (by omega) (by omega)).1 (Int.lt_trans (hR 15 (by omega) (by omega)).2 (by decide)) (rd _ _ 15 (by omega) (by omega) (fun c => by (try simp only [updi, Nat.reduceEqDiff, if_false]); rw [← c]; exact hab 15 (by omega) u))]
  rw [stA (K := 16) (x := ma S 16 u) rfl (by omega) hv hv' hu hu' (hR 16 (by omega) (by omega)).1 (Int.lt_trans (hR 16 (by omega) (by omega)).2 (by decide)) (rd _ _ 16 (by omega) (by omega) (fun c => by (try simp only [updi, Nat.reduceEqDiff, if_false]); rw [← c]; exact hab 16 (by omega) u))]
  rw [stA (K := 17) (x := ma S 17 u) rfl (by omega) hv hv' hu hu' (hR 17 (by omega) (by omega)).1 (Int.lt_trans (hR 17 (by omega) (by omega)).2 (by decide)) (rd _ _ 17 (by omega) (by omega) (fun c => by (try simp only [updi, Nat.reduceEqDiff, if_false]); rw [← c]; exact hab 17 (by omega) u))]
  rw [stA (K := 18) (x := ma S 18 u) rfl (by omega) hv hv' hu hu' (hR 18 (by omega) (by omega)).1 (Int.lt_trans (hR 18 (by omega) (by omega)).2 (by decide)) (rd _ _ 18 (by omega) (by omega) (fun c => by (try simp only [updi, Nat.reduceEqDiff, if_false]); rw [← c]; exact hab 18 (by omega) u))]
  rw [stZ (K := 19) (x := ma S 19 u) rfl (by omega) hv hv' hu hu' hz (rd _ _ 19 (by omega) (by omega) (fun c => by (try simp only [updi, Nat.reduceEqDiff, if_false]); rw [← c]; exact hab 19 (by omega) u))]
  rw [stL (K := 20) (x := ml S 20 u) rfl (by omega) hv hv' hu hu' (rdl _ _ 20 (by omega) (by omega) (fun c => by (try simp only [updl, Nat.reduceEqDiff, if_false]); rw [← c]; exact hlb 20 u))]
  rw [stL (K := 21) (x := ml S 21 u) rfl (by omega) hv hv' hu hu' (rdl _ _ 21 (by omega) (by omega) (fun c => by (try simp only [updl, Nat.reduceEqDiff, if_false]); rw [← c]; exact hlb 21 u))]
  rw [stL (K := 22) (x := ml S 22 u) rfl (by omega) hv hv' hu hu' (rdl _ _ 22 (by omega) (by omega) (fun c => by (try simp only [updl, Nat.reduceEqDiff, if_false]); rw [← c]; exact hlb 22 u))]
  rw [pb_ok (dayloop (fun d => ma S 24 (60 * u + d)) hv hv' hu hu' hd (fun j hj => by
    rw [ma_setv, if_neg (by omega)]
    by_cases c : u = v
    · subst c
      rw [if_pos (by omega)]
      by_cases e : 60 * u + ↑j - 60 * u < (j : Int)
      · rw [if_pos e]; congr 1; omega
      · rw [if_neg e, hab 24 (by omega)]; congr 1; omega
    · rw [if_neg (by omega), hab 24 (by omega)]))]
  show some (I v, _) = some (I v, _)
  congr 2
  refine ms_ext (fun J y => ?_) (fun J y => ?_) (fun _ => rfl)
  · rw [ma_setv, ma_setv]
    by_cases c : (9 ≤ J ∧ J ≤ 19) ∧ y = v
    · rw [if_pos c, if_pos c]
      obtain ⟨⟨c1, c2⟩, -⟩ := c
      have : J = 9 ∨ J = 10 ∨ J = 11 ∨ J = 12 ∨ J = 13 ∨ J = 14 ∨ J = 15 ∨ J = 16 ∨ J = 17 ∨ J = 18 ∨ J = 19 := by omega
      rcases this with rfl | rfl | rfl | rfl | rfl | rfl | rfl | rfl | rfl | rfl | rfl <;> rfl
    · rw [if_neg c, if_neg c]
      by_cases d : J = 24 ∧ 60 * v ≤ y ∧ y < 60 * v + 60
      · rw [if_pos d, if_pos d, if_pos (by omega)]
      · rw [if_neg d, if_neg d]; exact congrArg (fun T => ma T J y) (setv_id T0 v)
  · rw [ml_setv, ml_setv]
    by_cases c : (20 ≤ J ∧ J ≤ 22) ∧ y = v
    · rw [if_pos c, if_pos c]
      obtain ⟨⟨c1, c2⟩, -⟩ := c
      have : J = 20 ∨ J = 21 ∨ J = 22 := by omega
      rcases this with rfl | rfl | rfl <;> rfl
    · rw [if_neg c, if_neg c]; exact congrArg (fun T => ml T J y) (setv_id T0 v)
theorem e_next {t i : Int} {S : MS} (h : WR t S) (hi : 0 ≤ i) (hi' : i < mf S 3) : P_X7_next (I i) S = some (I (toOf S i), sNext S i) := by
  have hn := h.nn
  have hm := h.mt hi hi'
  have hv := h.vs hm.2.1.1 hm.2.1.2
  have hdl := fun (d : Int) (h0 : 0 ≤ d) (h1 : d < 60) => h.dl hm.2.1.1 hm.2.1.2 h0 h1
  unfold P_X7_next sNext toOf rI rL rD
  rw [gr5 hi (by omega)]
  generalize hfr : ma S 5 i = fr at hm hv hdl ⊢
  rw [gr8 (by omega) (by omega)]
  have hR : ∀ K, 9 ≤ K → K ≤ 19 → -2147483648 ≤ ma S K fr ∧ ma S K fr < 2147483647 := fun K h1 h2 => by
    have : K = 9 ∨ K = 10 ∨ K = 11 ∨ K = 12 ∨ K = 13 ∨ K = 14 ∨ K = 15 ∨ K = 16 ∨ K = 17 ∨ K = 18 ∨ K = 19 := by omega
    rcases this with rfl | rfl | rfl | rfl | rfl | rfl | rfl | rfl | rfl | rfl | rfl <;> omega
  by_cases c : ma S 8 fr = 0
  · rw [if_pos c, if_pos c]
    have hc : ¬ (decide (¬ I (ma S 8 fr) = 0) = true) := by rw [c]; decide
    rw [if_neg hc, pb_pp, r_gi, gr8 (by omega) (by omega), if_neg hc, pb_pp, show I (mf S 7) + (0 : Int32) = I (mf S 7 + 0) from by rw [gl0, I_add], w_si (by omega) (by omega), Int.add_zero]
    exact nextAll (S := S) (by omega) (by omega) (by omega) (by omega) (fun _ _ _ => rfl) (fun _ _ => rfl) hR (by omega) (fun d h0 h1 => by have := hdl d h0 h1; omega)
  · rw [if_neg c, if_neg c]
    have hc : decide (¬ I (ma S 8 fr) = 0) = true := decide_eq_true (fun q => c (by rw [gl0] at q; exact (I_inj (by omega) (by omega) (by omega) (by omega)).mp q))
    rw [if_pos hc, r_gi, r_gi, gr8 (by omega) (by omega), if_pos hc, pb_pp, show I (mf S 7) + (1 : Int32) = I (mf S 7 + 1) from by rw [gl1, I_add], w_si (by omega) (by omega)]
    exact nextAll (S := S) (by omega) (by omega) (by omega) (by omega) (fun _ _ _ => rfl) (fun _ _ => rfl) hR (by omega) (fun d h0 h1 => by have := hdl d h0 h1; omega)
