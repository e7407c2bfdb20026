section C46
variable {m M : QM} {mo i K u n : Nat}
theorem GROW.sai {a j : Nat} {x : Int32} (h : GROW m M) (ha : qtop m ≤ a) : GROW m (sai M a j x) := ⟨h.top, h.ty, h.fi, h.fl, h.fr, fun b y => (va_up_diff _ _ (by omega)).trans (h.ai b y), h.al, h.ar⟩
end C46
