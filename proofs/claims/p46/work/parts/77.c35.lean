section C35
variable {sv : Nat} {G G' : GM} {S S1 X : MS} {m m' M W : QM} {t : Int} {p i d w o k x r : Int} {T a b : Nat} {R : Nat → Nat → Option Nat}
theorem CR.apart {u v : Nat} {j : Int} (h : CR sv G S m) (i0 : 0 ≤ i) (i1 : i < mf S 3) (j0 : 0 ≤ j) (j1 : j < mf S 3) (e : am G j + u = am G i + v) (hu : u < 10) (hv : v < 10) : j = i ∧ u = v := by
  by_cases q : j = i
  · subst q; exact ⟨rfl, by omega⟩
  · rcases Int.lt_or_lt_of_ne q with z | z
    · have := h.mi j i j0 z i1; omega
    · have := h.mi i j i0 z j1; omega
theorem own42 : ownb (seta S 42 k 1) i p d = ownb S i p d := by
  unfold ownb
  exact bestTo_cg (seta_ne (by decide)) (seta_ne (by decide)) (fun l => by unfold cO; rw [seta_ne (by decide), seta_ne (by decide), seta_ne (by decide), seta_ne (by decide)]) _
theorem CR.set42 (h : CR sv G S m) (h0 : 0 ≤ k) (h1 : k < mf S 29) (r1 : ∀ b, (∀ i, 0 ≤ i → i < mf S 3 → b ≠ am G i + 7) → R b = qar m b)
    (kn : ∀ i p d : Int, 0 ≤ i → i < mf S 3 → 0 ≤ p → p < 5 → -1 ≤ d → d < 60 → R (am G i + 7) (61 * p + d + 1).toNat = oad G (kept (seta S 42 k 1) i p d)) : CR sv G (seta S 42 k 1) (setR (sfi m 138 (ag G k) (I 1)) R) := by
  have hgk := h.mg k h0 h1
  have cf := h.cf
  have n : ∀ {f b : Nat}, f ≠ 138 → qfi (setR (sfi m 138 (ag G k) (I 1)) R) f b = qfi m f b := fun q => fi_n (m := m) q
  have lo : ∀ b, b < sv + 23 → R b = qar m b := fun b q => r1 b (fun i x y => by have := (h.mt i x y).lo; omega)
  have im : IMM sv m (setR (sfi m 138 (ag G k) (I 1)) R) := ((IMM.refl sv m).wfi (Or.inl (by decide))).wR
  have sx : ∀ v, SV (seta S 42 k 1) S v := fun v => SV.ex (EX.seta S 42 k 1) (Or.inr (by decide)) v
  refine ⟨⟨cf.ty, cf.f0, cf.f1, cf.f2, cf.f3, cf.f7, cf.f8, cf.t1, cf.t2, cf.t3, cf.t4, cf.t5, cf.t6, fun z x y => (congrFun (lo _ (by omega)) _).trans (cf.zr z x y), cf.zt, fun z x y => (congrFun (lo _ (by omega)) _).trans (cf.pr z x y), cf.pt, cf.pf, cf.pe, cf.top⟩,
    (n (by decide)).trans h.f4, (n (by decide)).trans h.f5, (n (by decide)).trans h.f6, fun z x y => (n (by decide)).trans (h.z0 z x y), fun z x y => (n (by decide)).trans (h.z1 z x y), fun z x y w => (n (by decide)).trans (h.z2 z x y w), fun p x y => (n (by decide)).trans (h.p0 p x y), fun p x y => (n (by decide)).trans (h.p1 p x y), h.pe, fun i x y => ?_, h.mi, fun l x y => ?_, h.gi⟩
  · have hm := h.mt i x y
    have ro : ∀ n, n < 10 → n ≠ 7 → R (am G i + n) = qar m (am G i + n) := fun n q z => r1 _ (fun j u v e => z (h.apart u v x y e q (by decide)).2)
    refine hm.fr3 im (fun b u v => ⟨rfl, fun f q => ⟨n (by omega), rfl⟩⟩) (congrFun (lo _ (by omega)) _) rfl rfl rfl rfl rfl (sx _) (fun p a b z => (congrFun (ro 5 (by decide) (by decide)) _).trans (hm.cn p a b z)) (fun p a b z => ⟨(congrFun (ro 5 (by decide) (by decide)) _).trans (hm.cs p a b z).1, ((hm.cs p a b z).2.fr im).to (sx _)⟩) (fun p d u v w z => kn i p d x y u v w z) (fun p d u v w z => ?_)
    rw [own42]
    exact (congrFun (ro 9 (by decide) (by decide)) _).trans (hm.ow p d u v w z)
  · by_cases e : l = k
    · subst e
      refine ⟨hgk.lo, hgk.hi, hgk.ty, (congrFun (lo _ (by omega)) _).trans hgk.pl, (n (by decide)).trans hgk.f0, hgk.f1, (n (by decide)).trans hgk.f2, (n (by decide)).trans hgk.f3, hgk.f4, hgk.vlo, hgk.vhi, hgk.vty, (n (by decide)).trans hgk.v0, fun z => ((hgk.vs z).fr im).to (sx _), (n (by decide)).trans hgk.f5, fun z => (n (by decide)).trans (hgk.f6 z), fun z => (n (by decide)).trans (hgk.f7 z), fun z => (n (by decide)).trans (hgk.f8 z), fun z => (n (by decide)).trans (hgk.f9 z), fun z => ?_, fun z => (n (by decide)).trans (hgk.f11 z)⟩
      rw [s42, if_pos rfl]
      exact (show qfi (sfi m 138 (ag G l) (I 1)) 138 (ag G l) = I 1 from fi_s)
    · have ne : ag G l ≠ ag G k := fun q => by
        rcases Int.lt_or_lt_of_ne e with z | z
        · have := h.gi l k x z h1; omega
        · have := h.gi k l h0 z y; omega
      refine (h.mg l x y).fr im rfl (fun f _ => ⟨fi_a (m := m) ne, rfl⟩) (congrFun (lo _ (by omega)) _) rfl rfl rfl (fun J a b => ?_) (fun _ => sx _)
      by_cases z : J = 42
      · subst z; rw [s42, if_neg e]
      · exact n42 z l
theorem CR.d0 {y : Int32} (h : CR sv G S m) (h0 : 0 ≤ k) (h1 : k < mf S 29) (hk : ma S 31 k = 0) : CR sv G S (sfi m 138 (ag G k) y) := by
  have hgk := h.mg k h0 h1
  have n : ∀ {f b : Nat}, f ≠ 138 → qfi (sfi m 138 (ag G k) y) f b = qfi m f b := fun q => fi_n q
  have im : IMM sv m (sfi m 138 (ag G k) y) := (IMM.refl sv m).wfi (Or.inl (by decide))
  refine ⟨h.cf, (n (by decide)).trans h.f4, (n (by decide)).trans h.f5, (n (by decide)).trans h.f6, fun z x y => (n (by decide)).trans (h.z0 z x y), fun z x y => (n (by decide)).trans (h.z1 z x y), fun z x y w => (n (by decide)).trans (h.z2 z x y w), fun p x y => (n (by decide)).trans (h.p0 p x y), fun p x y => (n (by decide)).trans (h.p1 p x y), h.pe, fun i x y => ?_, h.mi, fun l x y => ?_, h.gi⟩
  · exact (h.mt i x y).fr im (fun b u v => ⟨rfl, fun f q => ⟨n (by omega), rfl⟩, rfl⟩) rfl rfl rfl (fun _ _ _ => rfl) rfl rfl rfl (fun _ _ _ => rfl) (SV.refl _ _) (fun _ _ _ _ => SV.refl _ _) (fun _ _ _ _ _ _ => rfl) (fun _ _ _ _ _ _ => rfl)
  · by_cases e : l = k
    · subst e
      exact ⟨hgk.lo, hgk.hi, hgk.ty, hgk.pl, (n (by decide)).trans hgk.f0, hgk.f1, (n (by decide)).trans hgk.f2, (n (by decide)).trans hgk.f3, hgk.f4, hgk.vlo, hgk.vhi, hgk.vty, (n (by decide)).trans hgk.v0, fun z => (hgk.vs z).fr im, (n (by decide)).trans hgk.f5, fun z => (n (by decide)).trans (hgk.f6 z), fun z => (n (by decide)).trans (hgk.f7 z), fun z => (n (by decide)).trans (hgk.f8 z), fun z => (n (by decide)).trans (hgk.f9 z), fun z => absurd hk z, fun z => (n (by decide)).trans (hgk.f11 z)⟩
    · have ne : ag G l ≠ ag G k := fun q => by
        rcases Int.lt_or_lt_of_ne e with z | z
        · have := h.gi l k x z h1; omega
        · have := h.gi k l h0 z y; omega
      exact (h.mg l x y).fr im rfl (fun f _ => ⟨fi_a ne, rfl⟩) rfl rfl rfl rfl (fun J a b => rfl) (fun _ => SV.refl _ _)
def gcp (G : GM) (z : Int) (a : Nat) : GM := (am G, an G, fun x => if x = z then a else ac G x, ag G, av G)
theorem CR.bec {v : Int} (h : CR sv G S m) (hw : WR t S) (r0 : 0 ≤ r) (r1 : r < 5) (i0 : 0 ≤ i) (i1 : i < mf S 3) (hv : VS sv m a S v) (v0 : v ≠ -1) : CR sv (gcp G (8 * r + i) a) (seta S 25 (8 * r + i) v) (sar m (am G i + 5) r.toNat (some a)) := by
  have hn := hw.nn
  have hmi := h.mt i i0 i1
  have cf := h.cf
  have ra : ∀ b, b ≠ am G i + 5 → qar (sar m (am G i + 5) r.toNat (some a)) b = qar m b := fun b q => va_up_diff _ _ q
  have lo : ∀ b, b < sv + 23 → qar (sar m (am G i + 5) r.toNat (some a)) b = qar m b := fun b q => ra b (by have := hmi.lo; omega)
  have im : IMM sv m (sar m (am G i + 5) r.toNat (some a)) := (IMM.refl sv m).war
  have em : EM (seta S 25 (8 * r + i) v) S := ⟨fun J x y => seta_ne (by omega), rfl⟩
  have n : ∀ {J : Nat}, J ≠ 25 → ∀ y, ma (seta S 25 (8 * r + i) v) J y = ma S J y := fun q y => congrFun (seta_ne q) y
  have sx : ∀ u, SV (seta S 25 (8 * r + i) v) S u := fun u => SV.ex (EX.seta S 25 _ v) (Or.inr (by decide)) u
  have s25 : ∀ y, ma (seta S 25 (8 * r + i) v) 25 y = if y = 8 * r + i then v else ma S 25 y := fun y => by
    show (if 25 = 25 ∧ y = 8 * r + i then v else ma S 25 y) = _
    by_cases e : y = 8 * r + i
    · rw [if_pos ⟨rfl, e⟩, if_pos e]
    · rw [if_neg (fun z => e z.2), if_neg e]
  refine ⟨⟨cf.ty, cf.f0, cf.f1, cf.f2, cf.f3, cf.f7, cf.f8, cf.t1, cf.t2, cf.t3, cf.t4, cf.t5, cf.t6, fun z x y => (congrFun (lo _ (by omega)) _).trans (cf.zr z x y), cf.zt, fun z x y => (congrFun (lo _ (by omega)) _).trans (cf.pr z x y), cf.pt, cf.pf, cf.pe, cf.top⟩,
    h.f4, h.f5, h.f6, h.z0, h.z1, h.z2, h.p0, h.p1, h.pe, fun j x y => ?_, h.mi, fun l x y => ?_, h.gi⟩
  · have yj : j < mf S 3 := y
    have hm := h.mt j x y
    have ro : ∀ n, n < 10 → (j ≠ i ∨ n ≠ 5) → qar (sar m (am G i + 5) r.toNat (some a)) (am G j + n) = qar m (am G j + n) := fun n q z => ra _ (fun e => by
      have := h.apart i0 i1 x y e q (by decide)
      rcases z with z | z
      · exact z this.1
      · exact z this.2)
    have row : ∀ p : Int, 0 ≤ p → p < 5 → 8 * p + j ≠ 8 * r + i → qar (sar m (am G i + 5) r.toNat (some a)) (am G j + 5) p.toNat = qar m (am G j + 5) p.toNat := fun p p0 p1 e => by
      by_cases q : j = i
      · subst q
        show va_up (qar m) (am G j + 5) (va_up (qar m (am G j + 5)) r.toNat (some a)) (am G j + 5) p.toNat = _
        rw [va_up_same, va_up_diff _ _ (by omega)]
      · exact congrFun (ro 5 (by decide) (Or.inl q)) _
    refine hm.fr3 im (fun b u v => ⟨rfl, fun f q => ⟨rfl, rfl⟩⟩) (congrFun (lo _ (by omega)) _) rfl rfl (n (by decide) _) (n (by decide) _) (n (by decide) _) (sx _) (fun p u z y => ?_) (fun p u z y => ?_) (fun p d u v w z => ?_) (fun p d u v w z => ?_)
    · rw [s25] at y
      by_cases e : 8 * p + j = 8 * r + i
      · rw [if_pos e] at y; exact absurd y v0
      · rw [if_neg e] at y
        rw [row p u z e]; exact hm.cn p u z y
    · rw [s25] at y ⊢
      show qar (sar m (am G i + 5) r.toNat (some a)) (am G j + 5) p.toNat = some (if 8 * p + j = 8 * r + i then a else ac G (8 * p + j)) ∧ VS sv _ (if 8 * p + j = 8 * r + i then a else ac G (8 * p + j)) _ _
      by_cases e : 8 * p + j = 8 * r + i
      · rw [if_pos e, if_pos e]
        have ej : j = i := by omega
        have ep : p = r := by omega
        subst ej ep
        refine ⟨?_, (hv.fr im).to (sx _)⟩
        show va_up (qar m) (am G j + 5) (va_up (qar m (am G j + 5)) p.toNat (some a)) (am G j + 5) p.toNat = _
        rw [va_up_same, va_up_same]
      · rw [if_neg e] at y
        rw [if_neg e, if_neg e, row p u z e]
        exact ⟨(hm.cs p u z y).1, ((hm.cs p u z y).2.fr im).to (sx _)⟩
    · rw [kept_cg em, ro 7 (by decide) (Or.inr (by decide))]; exact hm.kn p d u v w z
    · rw [ownb_cg em, ro 9 (by decide) (Or.inr (by decide))]; exact hm.ow p d u v w z
  · exact (h.mg l x y).fr im rfl (fun f _ => ⟨rfl, rfl⟩) (congrFun (lo _ (by omega)) _) rfl rfl rfl (fun J a b => n (by omega) l) (fun _ => sx _)
end C35
