/-! what else is kept; the server is made -/
section C43
variable {sv : Nat} {G : GM} {S S1 : MS} {m M A : QM} {t : Int}
theorem EQ44.e44 {v : Int} : EQ44 (setf S 45 v) S := ⟨fun _ _ => rfl, rfl, fun _ h => if_neg h⟩
theorem SI.e44 (hs : SI t S) (e : EQ44 S1 S) : SI t S1 := by
  refine hs.exr (fun J _ b => e.1 J (by omega)) e.2.1 e.2.2 (wr_44 hs.wr e) ?_
  obtain ⟨h1, h2, h3⟩ := hs.fr
  have f := e.2.2
  have a := e.1
  refine ⟨?_, ?_, ?_⟩
  · rw [f 7 (by decide), e.2.1, a 8 (by decide), a 9 (by decide), a 17 (by decide), a 18 (by decide), a 19 (by decide), a 24 (by decide)]; exact h1
  · rw [f 3 (by decide), a 5 (by decide), a 6 (by decide), a 25 (by decide), a 26 (by decide)]; exact h2
  · rw [f 29 (by decide), a 36 (by decide), a 38 (by decide), a 39 (by decide), a 40 (by decide), a 41 (by decide), a 42 (by decide), a 43 (by decide)]; exact h3
theorem CR.e44 (h : CR sv G S m) (e : EQ44 S1 S) : CR sv G S1 m := by
  have a := e.1
  have f := e.2.2
  have em : EM S1 S := ⟨fun J x y => a J (by omega), f 29 (by decide)⟩
  have sv' : ∀ v, SV S1 S v := fun v => ⟨fun J x y => by rw [a J (by omega)], fun J _ _ => by rw [e.2.1], fun d _ _ => by rw [a 24 (by decide)]⟩
  refine ⟨h.cf, by rw [f 3 (by decide)]; exact h.f4, by rw [f 29 (by decide)]; exact h.f5, by rw [f 30 (by decide)]; exact h.f6, by rw [a 0 (by decide)]; exact h.z0, by rw [a 1 (by decide)]; exact h.z1, by rw [a 1 (by decide), a 2 (by decide)]; exact h.z2, by rw [a 27 (by decide)]; exact h.p0, by rw [a 28 (by decide)]; exact h.p1, by rw [a 26 (by decide)]; exact h.pe, fun i x y => ?_, by rw [f 3 (by decide)]; exact h.mi, fun k x y => ?_, by rw [f 29 (by decide)]; exact h.gi⟩
  · rw [f 3 (by decide)] at y
    exact (h.mt i x y).fr (IMM.refl sv m) (fun b _ _ => ⟨rfl, fun _ _ => ⟨rfl, rfl⟩, rfl⟩) rfl rfl rfl (fun _ _ _ => rfl) (by rw [a 4 (by decide)]) (by rw [a 5 (by decide)]) (by rw [a 6 (by decide)]) (fun _ _ _ => by rw [a 25 (by decide)]) (sv' _) (fun _ _ _ _ => sv' _) (fun p d _ _ _ _ => by rw [kept_cg em]) (fun p d _ _ _ _ => by rw [ownb_cg em])
  · rw [f 29 (by decide)] at y
    exact (h.mg k x y).fr (IMM.refl sv m) rfl (fun _ _ => ⟨rfl, rfl⟩) rfl rfl rfl rfl (fun J x y => by rw [a J (by omega)]) (fun _ => sv' _)
theorem SI.thr (hs : SI t S) (x : Int) : SI t (setf S 45 x) := hs.e44 EQ44.e44
end C43
