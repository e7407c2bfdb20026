def IML (sv : Nat) (m m' : QM) : Prop :=
  (qtop m ≤ qtop m') ∧ (∀ b, sv + 23 ≤ b → b < qtop m → qty m' b = qty m b) ∧ (∀ f b, 320 ≤ f → f < 384 → sv + 23 ≤ b → b < qtop m → qfi m' f b = qfi m f b) ∧ (∀ f b, 320 ≤ f → f < 384 → sv + 23 ≤ b → b < qtop m → qfl m' f b = qfl m f b) ∧ (∀ f b, 320 ≤ f → f < 384 → sv + 23 ≤ b → b < qtop m → qfr m' f b = qfr m f b) ∧ (∀ b, sv + 23 ≤ b → b < qtop m → qai m' b = qai m b)
theorem IML.top {sv : Nat} {m m' : QM} (h : IML sv m m') : qtop m ≤ qtop m' := h.1
theorem IML.ty {sv : Nat} {m m' : QM} (h : IML sv m m') : ∀ b, sv + 23 ≤ b → b < qtop m → qty m' b = qty m b := h.2.1
theorem IML.fi {sv : Nat} {m m' : QM} (h : IML sv m m') : ∀ f b, 320 ≤ f → f < 384 → sv + 23 ≤ b → b < qtop m → qfi m' f b = qfi m f b := h.2.2.1
theorem IML.fl {sv : Nat} {m m' : QM} (h : IML sv m m') : ∀ f b, 320 ≤ f → f < 384 → sv + 23 ≤ b → b < qtop m → qfl m' f b = qfl m f b := h.2.2.2.1
theorem IML.fr {sv : Nat} {m m' : QM} (h : IML sv m m') : ∀ f b, 320 ≤ f → f < 384 → sv + 23 ≤ b → b < qtop m → qfr m' f b = qfr m f b := h.2.2.2.2.1
theorem IML.ai {sv : Nat} {m m' : QM} (h : IML sv m m') : ∀ b, sv + 23 ≤ b → b < qtop m → qai m' b = qai m b := h.2.2.2.2.2
