/-! THE MEMORY: what every cell of the system holds, by its address and the number of its field (64 times the class's number in vwCl, and the field's); the kinds of the cells; the next address. -/
abbrev QM : Type := (Nat → Nat × Nat × Nat) × (Nat → Nat → Int32) × (Nat → Nat → Int64) × (Nat → Nat → Option Nat) × (Nat → Nat → Int32) × (Nat → Nat → Int64) × (Nat → Nat → Option Nat) × Nat
/-- the kind of a cell: (1, class, 0) an object, (2, 0 | 1 | 2, n) an array of n ints, booleans, bytes, (3, 0, n) of longs, (4, class, n) of objects of a class -/
def qty (m : QM) : Nat → Nat × Nat × Nat := m.1
def qfi (m : QM) : Nat → Nat → Int32 := m.2.1
def qfl (m : QM) : Nat → Nat → Int64 := m.2.2.1
def qfr (m : QM) : Nat → Nat → Option Nat := m.2.2.2.1
def qai (m : QM) : Nat → Nat → Int32 := m.2.2.2.2.1
def qal (m : QM) : Nat → Nat → Int64 := m.2.2.2.2.2.1
def qar (m : QM) : Nat → Nat → Option Nat := m.2.2.2.2.2.2.1
def qtop (m : QM) : Nat := m.2.2.2.2.2.2.2
def sty (m : QM) (a : Nat) (t : Nat × Nat × Nat) : QM := (va_up m.1 a t, m.2)
def sfi (m : QM) (f a : Nat) (x : Int32) : QM := (m.1, va_up m.2.1 f (va_up (m.2.1 f) a x), m.2.2)
def sfl (m : QM) (f a : Nat) (x : Int64) : QM := (m.1, m.2.1, va_up m.2.2.1 f (va_up (m.2.2.1 f) a x), m.2.2.2)
def sfr (m : QM) (f a : Nat) (x : Option Nat) : QM := (m.1, m.2.1, m.2.2.1, va_up m.2.2.2.1 f (va_up (m.2.2.2.1 f) a x), m.2.2.2.2)
def sai (m : QM) (a i : Nat) (x : Int32) : QM := (m.1, m.2.1, m.2.2.1, m.2.2.2.1, va_up m.2.2.2.2.1 a (va_up (m.2.2.2.2.1 a) i x), m.2.2.2.2.2)
def sal (m : QM) (a i : Nat) (x : Int64) : QM := (m.1, m.2.1, m.2.2.1, m.2.2.2.1, m.2.2.2.2.1, va_up m.2.2.2.2.2.1 a (va_up (m.2.2.2.2.2.1 a) i x), m.2.2.2.2.2.2)
def sar (m : QM) (a i : Nat) (x : Option Nat) : QM := (m.1, m.2.1, m.2.2.1, m.2.2.2.1, m.2.2.2.2.1, m.2.2.2.2.2.1, va_up m.2.2.2.2.2.2.1 a (va_up (m.2.2.2.2.2.2.1 a) i x), m.2.2.2.2.2.2.2)
def stop (m : QM) (k : Nat) : QM := (m.1, m.2.1, m.2.2.1, m.2.2.2.1, m.2.2.2.2.1, m.2.2.2.2.2.1, m.2.2.2.2.2.2.1, k)
/-- a new object of a class: all fields as at first -/
def qnew (m : QM) (c : Nat) : QM := (va_up m.1 (qtop m) (1, c, 0), fun f => va_up (m.2.1 f) (qtop m) 0, fun f => va_up (m.2.2.1 f) (qtop m) 0, fun f => va_up (m.2.2.2.1 f) (qtop m) none, m.2.2.2.2.1, m.2.2.2.2.2.1, m.2.2.2.2.2.2.1, qtop m + 1)
/-- a new array, of a kind, with its rows -/
def qnewi (m : QM) (t n : Nat) (f : Nat → Int32) : QM := (va_up m.1 (qtop m) (2, t, n), m.2.1, m.2.2.1, m.2.2.2.1, va_up m.2.2.2.2.1 (qtop m) f, m.2.2.2.2.2.1, m.2.2.2.2.2.2.1, qtop m + 1)
def qnewl (m : QM) (n : Nat) : QM := (va_up m.1 (qtop m) (3, 0, n), m.2.1, m.2.2.1, m.2.2.2.1, m.2.2.2.2.1, va_up m.2.2.2.2.2.1 (qtop m) (fun _ => 0), m.2.2.2.2.2.2.1, qtop m + 1)
def qnewr (m : QM) (c n : Nat) : QM := (va_up m.1 (qtop m) (4, c, n), m.2.1, m.2.2.1, m.2.2.2.1, m.2.2.2.2.1, m.2.2.2.2.2.1, va_up m.2.2.2.2.2.2.1 (qtop m) (fun _ => none), qtop m + 1)
/-- what kind of value a field holds: 0 a number of 32 bits, 1 one of 64, 2 a reference -/
def qkl : List (List Nat) := [[2, 0, 0, 0], [0, 0, 2, 2, 0, 2, 2], [0, 2, 0, 0, 2, 0, 0, 0, 0, 0, 0, 0], [0, 0, 2], [2], [0, 2, 0, 0, 0, 0, 0, 0, 1, 1, 1, 2, 2, 2, 0, 0, 0], [0, 0, 0], [2, 2, 2, 2, 0, 0, 0, 2, 2]]
def qk (c k : Nat) : Nat := (qkl.getD c []).getD k 0
def qfv (m : QM) (c a k : Nat) : Value := if qk c k = 0 then .int (qfi m (64 * c + k) a) else if qk c k = 1 then .long (qfl m (64 * c + k) a) else va_rf (qfr m (64 * c + k) a)
/-- the types of the arrays: DA's numbers -/
def qaty : Nat → FieldType
  | 0 => .int
  | 1 => .boolean
  | 2 => .byte
  | 3 => .long
  | 5 => .object RX0
  | 6 => .object RX1
  | 7 => .object RX2
  | 9 => .object RX4
  | _ => .object RX5
def qcell (D : va_G) (DA : Nat → ClassId) (m : QM) (a : Nat) (H : Heap) : Prop :=
  ((qty m a).1 = 1 → ∃ r : vw_C, vwCl[(qty m a).2.1]? = some r ∧ t_OB a (D.1 (qty m a).2.1) r.2.2 (D.2 (qty m a).2.1) H (qfv m (qty m a).2.1 a)) ∧
  ((qty m a).1 = 2 → H[a]? = some (vp_cell (DA (qty m a).2.1) ((qty m a).2.2, .inl (qai m a)))) ∧
  ((qty m a).1 = 3 → H[a]? = some (vp_cell (DA 3) ((qty m a).2.2, .inr (.inl (qal m a))))) ∧
  ((qty m a).1 = 4 → H[a]? = some (vp_cell (DA (4 + (qty m a).2.1)) ((qty m a).2.2, .inr (.inr (.inr (.inr (qar m a)))))))
/-- the heap holds the memory; what was there ahead of all is as it was -/
def HR (D : va_G) (DA : Nat → ClassId) (Hs : Heap) (m : QM) (H : Heap) : Prop :=
  Hs.size ≤ qtop m ∧ H.size = qtop m ∧ (∀ q : Nat, q < Hs.size → H[q]? = Hs[q]?) ∧ ∀ a : Nat, (qty m a).1 ≠ 0 → Hs.size ≤ a ∧ a < qtop m ∧ qcell D DA m a H
def qats : List Nat := [0, 2, 5, 6, 7, 9, 10]
/-- words that are told of a state by itself -/
def qNk : Cond → Bool
  | .methodLinkNest .. | .castable .. | .declares .. | .privateMethod _ | .arrayOver (.object _) => true
  | _ => false
def qN : List Cond := lw_tbl.filter qNk
theorem qN_at {w : Cond} (i : Nat) (h : lw_tbl[i]? = some w) (g : qNk w = true) : w ∈ qN := List.mem_filter.mpr ⟨List.mem_of_getElem? h, g⟩
/-- the exceptions by numbers -/
def qex : Nat → String
  | 1 => "java/lang/IndexOutOfBoundsException"
  | 2 => "java/lang/IllegalArgumentException"
  | _ => "java/lang/IllegalStateException"
/-- the class's texts: their entries, letters, lengths; the JDK's rows of digits; DA's numbers from 100 on are the texts' addresses -/
def qsi (i : Nat) : Nat := 445 + 2 * i
def qst : List String := ["request", "reply", "proposal", "accepted", "tentative", "declined", "delegated"]
def qsl : List Nat := [7, 5, 8, 8, 9, 8, 9]
def qsb : List (List Int32) := [[114, 101, 113, 117, 101, 115, 116], [114, 101, 112, 108, 121], [112, 114, 111, 112, 111, 115, 97, 108], [97, 99, 99, 101, 112, 116, 101, 100], [116, 101, 110, 116, 97, 116, 105, 118, 101], [100, 101, 99, 108, 105, 110, 101, 100], [100, 101, 108, 101, 103, 97, 116, 101, 100]]
def qdO (j : Nat) : Int32 := Int32.ofNat (48 + j % 10)
def qdT (j : Nat) : Int32 := Int32.ofNat (48 + j / 10)
def KS (DA : Nat → ClassId) (Hs : Heap) (U : State) : Prop := ∃ (adV : Nat → Nat) (aO aT : Nat),
  vk_S 7 qsl qsb (fun i => DA (100 + i)) adV (fun q => Hs.size ≤ q) U Hs ∧ (∀ i, i < 7 → vk_R RX6 (qsi i) (qst.getD i "") (DA (100 + i)) U) ∧
  va_Z "java/lang/String" "COMPACT_STRINGS" "Z" (.int 1) (fun q => Hs.size ≤ q) U Hs ∧
  va_Z "java/lang/Integer" "DigitOnes" "[B" (.ref aO) (fun q => Hs.size ≤ q) U Hs ∧ va_T .byte aO 100 (fun j => .int (qdO j)) (fun q => Hs.size ≤ q) U Hs ∧
  va_Z "java/lang/Integer" "DigitTens" "[B" (.ref aT) (fun q => Hs.size ≤ q) U Hs ∧ va_T .byte aT 100 (fun j => .int (qdT j)) (fun q => Hs.size ≤ q) U Hs ∧
  va_Zq "jdk/internal/util/Preconditions" "SIOOBE_FORMATTER" "Ljava/util/function/BiFunction;" (fun q => Hs.size ≤ q) U Hs
theorem KS.moved {DA : Nat → ClassId} {Hs : Heap} {u U : State} (hW : u.WarmedH U.vm) (h : KS DA Hs u) : KS DA Hs U := by
  have hvm := hW.alike
  obtain ⟨adV, aO, aT, h1, h2, h3, h4, h5, h6, h7, h8⟩ := h
  exact ⟨adV, aO, aT, vk_S.moved hvm h1, fun i hi => vk_R.warm hW (h2 i hi), va_Z.moved hvm h3, va_Z.moved hvm h4, va_T.moved hvm h5, va_Z.moved hvm h6, va_T.moved hvm h7, va_Zq.moved hvm h8⟩
/-- what holds of the machine's tables in every state -/
def KN (D : va_G) (DA : Nat → ClassId) (Hs : Heap) (U : State) : Prop :=
  (∀ (c : Nat) (q : vw_C), vwCl[c]? = some q → u_Kn U q.1 q.2.1 q.2.2 (D.1 c) (D.2 c)) ∧ (∀ t, t ∈ qats → ArrOfT U (DA t) (qaty t) ∧ va_RA U (DA t) (qaty t)) ∧
  vx_Zq Bundle.tN "UNASSIGNED_STACK" Bundle.steD (fun q => Hs.size ≤ q) U Hs ∧ vx_Zq Bundle.tN "SUPPRESSED_SENTINEL" Bundle.listD (fun q => Hs.size ≤ q) U Hs ∧
  (∀ w, w ∈ qN → w.before #[] U = true) ∧ (∀ i j, i ∈ [1, 2, 3] → j ∈ [1, 2, 3] → i ≠ j → va_Nc (qex i) (qex j) U) ∧ KS DA Hs U
theorem qN_warm {s U : State} {w : Cond} (hW : s.WarmedH U.vm) (hw : qNk w = true) (h : w.before #[] s = true) : w.before #[] U = true := by
  cases w with
  | methodLinkNest a b c d => exact va_Nw.warmM hW h
  | castable a b => exact va_Nw.warmC hW h
  | declares a => exact va_Nw.warmD hW h
  | privateMethod a => exact Cond.privateMethod_warm hW h
  | arrayOver t =>
    cases t with
    | object C => exact va_AO.moved hW.alike h
    | _ => exact absurd hw (by simp [qNk])
  | _ => exact absurd hw (by simp [qNk])
theorem KN.moved {D : va_G} {DA : Nat → ClassId} {Hs : Heap} {u U : State} (hW : u.WarmedH U.vm) (h : KN D DA Hs u) : KN D DA Hs U :=
  have hvm := hW.alike
  ⟨fun c q hq => u_Kn_moved hvm (h.1 c q hq), fun t ht => ⟨arrOfT_moved hvm (h.2.1 t ht).1, (h.2.1 t ht).2.moved hvm⟩, vx_Zq.moved hvm h.2.2.1, vx_Zq.moved hvm h.2.2.2.1,
    fun w hw => qN_warm hW (List.mem_filter.mp hw).2 (h.2.2.2.2.1 w hw), fun i j hi hj hij => (h.2.2.2.2.2.1 i j hi hj hij).moved hvm, h.2.2.2.2.2.2.moved hW⟩
/-- the same machine, with other frames -/
theorem KN.same {D : va_G} {DA : Nat → ClassId} {Hs : Heap} {u U : State} (hv : u.vm = U.vm) (h : KN D DA Hs u) : KN D DA Hs U := KN.moved (by rw [← hv]; exact State.WarmedH.refl u) h
theorem KN.word {D : va_G} {DA : Nat → ClassId} {Hs : Heap} {U : State} {A : Array Value} {w : Cond} (h : KN D DA Hs U) (hw : w ∈ qN) : w.before A U = true := by
  have h1 := h.2.2.2.2.1 w hw
  have hk := (List.mem_filter.mp hw).2
  cases w with
  | methodLinkNest a b c d => exact va_Nw.use rfl h1
  | castable a b => exact va_Nw.use rfl h1
  | declares a => exact va_Nw.use rfl h1
  | privateMethod a => exact va_tabs rfl rfl h1
  | arrayOver t =>
    cases t with
    | object C => exact va_AO.use h1
    | _ => exact absurd hk (by simp [qNk])
  | _ => exact absurd hk (by simp [qNk])
theorem va_up_same {α : Type} (f : Nat → α) (k : Nat) (v : α) : va_up f k v k = v := by simp [va_up]
theorem va_up_diff {α : Type} (f : Nat → α) {k j : Nat} (v : α) (h : ¬ j = k) : va_up f k v j = f j := by simp [va_up, h]
/-- a cell that is left as it was -/
theorem qcell.kept {D : va_G} {DA : Nat → ClassId} {m m' : QM} {a : Nat} {H H' : Heap} (h : qcell D DA m a H) (hH : H'[a]? = H[a]?) (ht : qty m' a = qty m a) (h1 : ∀ f, qfi m' f a = qfi m f a) (h2 : ∀ f, qfl m' f a = qfl m f a) (h3 : ∀ f, qfr m' f a = qfr m f a) (h4 : qai m' a = qai m a) (h5 : qal m' a = qal m a) (h6 : qar m' a = qar m a) : qcell D DA m' a H' := by
  obtain ⟨c1, c2, c3, c4⟩ := h
  have hv : ∀ c, qfv m' c a = qfv m c a := fun c => funext fun k => by simp only [qfv, h1, h2, h3]
  refine ⟨fun q => ?_, fun q => ?_, fun q => ?_, fun q => ?_⟩
  · rw [ht] at q ⊢
    obtain ⟨r, hr, ho⟩ := c1 q
    rw [hv]
    exact ⟨r, hr, ho.kept hH⟩
  · rw [ht] at q ⊢
    rw [hH, h4]; exact c2 q
  · rw [ht] at q ⊢
    rw [hH, h5]; exact c3 q
  · rw [ht] at q ⊢
    rw [hH, h6]; exact c4 q
/-- one cell is written, the others are left -/
theorem HR.put {D : va_G} {DA : Nat → ClassId} {Hs : Heap} {m m' : QM} {H H' : Heap} {a : Nat} (h : HR D DA Hs m H) (hk : (qty m a).1 ≠ 0) (z : H'.size = H.size) (o : ∀ q : Nat, q ≠ a → H'[q]? = H[q]?) (htop : qtop m' = qtop m) (ht : ∀ b, qty m' b = qty m b)
    (h1 : ∀ f b, b ≠ a → qfi m' f b = qfi m f b) (h2 : ∀ f b, b ≠ a → qfl m' f b = qfl m f b) (h3 : ∀ f b, b ≠ a → qfr m' f b = qfr m f b) (h4 : ∀ b, b ≠ a → qai m' b = qai m b) (h5 : ∀ b, b ≠ a → qal m' b = qal m b) (h6 : ∀ b, b ≠ a → qar m' b = qar m b)
    (hc : qcell D DA m' a H') : HR D DA Hs m' H' := by
  obtain ⟨g1, g2, g3, g4⟩ := h
  have ha := (g4 a hk).1
  refine ⟨by rw [htop]; exact g1, by rw [z, htop]; exact g2, fun q hq => by rw [o q (by omega)]; exact g3 q hq, fun b hb => ?_⟩
  rw [ht b] at hb
  obtain ⟨q1, q2, q3⟩ := g4 b hb
  refine ⟨q1, by rw [htop]; exact q2, ?_⟩
  by_cases e : b = a
  · subst e; exact hc
  · exact q3.kept (o b e) (ht b) (fun f => h1 f b e) (fun f => h2 f b e) (fun f => h3 f b e) (h4 b e) (h5 b e) (h6 b e)
/-- one cell is new -/
theorem HR.push {D : va_G} {DA : Nat → ClassId} {Hs : Heap} {m m' : QM} {H H' : Heap} (h : HR D DA Hs m H) (z : H'.size = H.size + 1) (o : ∀ q : Nat, q < H.size → H'[q]? = H[q]?) (htop : qtop m' = qtop m + 1) (ht : ∀ b, b ≠ qtop m → qty m' b = qty m b)
    (h1 : ∀ f b, b ≠ qtop m → qfi m' f b = qfi m f b) (h2 : ∀ f b, b ≠ qtop m → qfl m' f b = qfl m f b) (h3 : ∀ f b, b ≠ qtop m → qfr m' f b = qfr m f b) (h4 : ∀ b, b ≠ qtop m → qai m' b = qai m b) (h5 : ∀ b, b ≠ qtop m → qal m' b = qal m b) (h6 : ∀ b, b ≠ qtop m → qar m' b = qar m b)
    (hc : qcell D DA m' (qtop m) H') : HR D DA Hs m' H' := by
  obtain ⟨g1, g2, g3, g4⟩ := h
  refine ⟨by omega, by omega, fun q hq => by rw [o q (by omega)]; exact g3 q hq, fun b hb => ?_⟩
  by_cases e : b = qtop m
  · subst e; exact ⟨g1, by omega, hc⟩
  · rw [ht b e] at hb
    obtain ⟨q1, q2, q3⟩ := g4 b hb
    exact ⟨q1, by omega, q3.kept (o b (by omega)) (ht b e) (fun f => h1 f b e) (fun f => h2 f b e) (fun f => h3 f b e) (h4 b e) (h5 b e) (h6 b e)⟩
/-- only the next address is another -/
theorem HR.later {D : va_G} {DA : Nat → ClassId} {Hs : Heap} {m : QM} {H H' : Heap} (h : HR D DA Hs m H) (z : H.size ≤ H'.size) (o : ∀ q : Nat, q < H.size → H'[q]? = H[q]?) : HR D DA Hs (stop m H'.size) H' := by
  obtain ⟨g1, g2, g3, g4⟩ := h
  refine ⟨by show Hs.size ≤ H'.size; omega, rfl, fun q hq => by rw [o q (by omega)]; exact g3 q hq, fun b hb => ?_⟩
  obtain ⟨q1, q2, q3⟩ := g4 b hb
  exact ⟨q1, by show b < H'.size; omega, q3.kept (o b (by omega)) rfl (fun _ => rfl) (fun _ => rfl) (fun _ => rfl) rfl rfl rfl⟩
/-! computations that may fail (none), throw (a number: 1 an index, 2 an argument, 3 a state), or answer -/
abbrev QX (α : Type) : Type := QM → Option (Except Nat α × QM)
def xp {α : Type} (a : α) : QX α := fun m => some (.ok a, m)
def xn {α : Type} : QX α := fun _ => none
def xth {α : Type} (e : Nat) : QX α := fun m => some (.error e, m)
def xb {α β : Type} (x : QX α) (f : α → QX β) : QX β := fun m => match x m with
  | none => none
  | some (.ok a, m') => f a m'
  | some (.error e, m') => some (.error e, m')
def qwp {α : Type} (x : QX α) (K : α → QM → Prop) (T : Nat → QM → Prop) (m : QM) : Prop := match x m with
  | none => False
  | some (.ok a, m') => K a m'
  | some (.error e, m') => T e m'
theorem qwp_xb {α β : Type} {x : QX α} {f : α → QX β} {K : β → QM → Prop} {T : Nat → QM → Prop} {m : QM} (h : qwp (xb x f) K T m) : qwp x (fun a m' => qwp (f a) K T m') T m := by
  unfold qwp xb at h
  unfold qwp
  cases hx : x m with
  | none => rw [hx] at h; exact h
  | some r =>
    obtain ⟨r1, r2⟩ := r
    rw [hx] at h
    cases r1 with
    | ok a => exact h
    | error e => exact h
theorem qwp_mono {α : Type} {x : QX α} {K K' : α → QM → Prop} {T T' : Nat → QM → Prop} {m : QM} (h : qwp x K T m) (hK : ∀ a m', K a m' → K' a m') (hT : ∀ e m', T e m' → T' e m') : qwp x K' T' m := by
  unfold qwp at h ⊢
  cases hx : x m with
  | none => rw [hx] at h; exact h
  | some r =>
    obtain ⟨r1, r2⟩ := r
    rw [hx] at h
    cases r1 with
    | ok a => exact hK _ _ h
    | error e => exact hT _ _ h
theorem qwp_of {α : Type} {x : QX α} {m : QM} {res : Except Nat α × QM} (h : x m = some res) : qwp x (fun a m' => res = (.ok a, m')) (fun e m' => res = (.error e, m')) m := by
  unfold qwp
  rw [h]
  obtain ⟨r1, r2⟩ := res
  cases r1 <;> rfl
def xl {σ : Type} : Nat → (σ → QX Bool) → (σ → QX σ) → σ → QX σ
  | 0, _, _, _ => xn
  | n + 1, c, b, s => xb (c s) fun v => if v then xb (b s) fun s' => xl n c b s' else xp s
def b2i (b : Bool) : Int32 := if b then 1 else 0
def xok (p : Bool) : QX Unit := fun m => if p then some (.ok (), m) else none
/-- the address of an object of a class -/
def xo {α : Type} (c : Nat) (r : Option Nat) (f : Nat → QX α) : QX α := fun m => match r with
  | none => none
  | some a => if qty m a = (1, c, 0) then f a m else none
def xgi (c k : Nat) (r : Option Nat) : QX Int32 := xo c r fun a m => some (.ok (qfi m (64 * c + k) a), m)
def xgl (c k : Nat) (r : Option Nat) : QX Int64 := xo c r fun a m => some (.ok (qfl m (64 * c + k) a), m)
def xgr (c k : Nat) (r : Option Nat) : QX (Option Nat) := xo c r fun a m => some (.ok (qfr m (64 * c + k) a), m)
def xsi (c k : Nat) (r : Option Nat) (x : Int32) : QX Unit := xo c r fun a m => some (.ok (), sfi m (64 * c + k) a x)
def xsz (c k : Nat) (r : Option Nat) (x : Int32) : QX Unit := xo c r fun a m => if x = 0 ∨ x = 1 then some (.ok (), sfi m (64 * c + k) a x) else none
def xsl (c k : Nat) (r : Option Nat) (x : Int64) : QX Unit := xo c r fun a m => some (.ok (), sfl m (64 * c + k) a x)
def xsr (c k : Nat) (r : Option Nat) (x : Option Nat) : QX Unit := xo c r fun a m => some (.ok (), sfr m (64 * c + k) a x)
/-- a place of an array of a kind -/
def xat {α : Type} (t u : Nat) (r : Option Nat) (i : Int32) (f : Nat → Nat → QX α) : QX α := fun m => match r with
  | none => none
  | some a => if (qty m a).1 = t ∧ (qty m a).2.1 = u ∧ 0 ≤ i.toInt ∧ i.toInt < (qty m a).2.2 then f a i.toNatClampNeg m else none
def xai (u : Nat) (r : Option Nat) (i : Int32) : QX Int32 := xat 2 u r i fun a j m => some (.ok (qai m a j), m)
def xal (r : Option Nat) (i : Int32) : QX Int64 := xat 3 0 r i fun a j m => some (.ok (qal m a j), m)
def xar (c : Nat) (r : Option Nat) (i : Int32) : QX (Option Nat) := xat 4 c r i fun a j m => some (.ok (qar m a j), m)
def xsai (r : Option Nat) (i x : Int32) : QX Unit := xat 2 0 r i fun a j m => some (.ok (), sai m a j x)
def xsaz (r : Option Nat) (i x : Int32) : QX Unit := xat 2 1 r i fun a j m => if x = 0 ∨ x = 1 then some (.ok (), sai m a j x) else none
def xsab (r : Option Nat) (i x : Int32) : QX Unit := xat 2 2 r i fun a j m => if x.toInt8.toInt32 = x then some (.ok (), sai m a j x) else none
def xsal (r : Option Nat) (i : Int32) (x : Int64) : QX Unit := xat 3 0 r i fun a j m => some (.ok (), sal m a j x)
def xsar (c : Nat) (r : Option Nat) (i : Int32) (x : Option Nat) : QX Unit := xat 4 c r i fun a j m => match x with
  | none => some (.ok (), sar m a j none)
  | some v => if qty m v = (1, c, 0) then some (.ok (), sar m a j (some v)) else none
def xlen (r : Option Nat) : QX Int32 := fun m => match r with
  | none => none
  | some a => if (qty m a).1 = 2 ∧ ((qty m a).2.1 = 0 ∨ (qty m a).2.1 = 2) ∨ (qty m a).1 = 4 ∧ 4 + (qty m a).2.1 ∈ qats then some (.ok (Int32.ofNat (qty m a).2.2), m) else none
def xnew (c : Nat) : QX (Option Nat) := fun m => some (.ok (some (qtop m)), qnew m c)
def xnewi (t : Nat) (n : Int32) (cap : Nat) : QX (Option Nat) := fun m => if 0 ≤ n.toInt ∧ n.toInt ≤ cap then some (.ok (some (qtop m)), qnewi m t n.toNatClampNeg (fun _ => 0)) else none
def xnewl (n : Int32) (cap : Nat) : QX (Option Nat) := fun m => if 0 ≤ n.toInt ∧ n.toInt ≤ cap then some (.ok (some (qtop m)), qnewl m n.toNatClampNeg) else none
def xnewr (c : Nat) (n : Int32) (cap : Nat) : QX (Option Nat) := fun m => if 0 ≤ n.toInt ∧ n.toInt ≤ cap then some (.ok (some (qtop m)), qnewr m c n.toNatClampNeg) else none
def xclone (r : Option Nat) (cap : Nat) : QX (Option Nat) := fun m => match r with
  | none => none
  | some a => if (qty m a).1 = 2 ∧ (qty m a).2.1 = 0 ∧ (qty m a).2.2 ≤ cap then some (.ok (some (qtop m)), qnewi m 0 (qty m a).2.2 (qai m a)) else none
