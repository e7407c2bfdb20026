section C49
variable {sv : Nat} {G : GM} {S S1 : MS} {m : QM} {t : Int}
theorem hold_45 {i v : Int} : mf (sHold S i v) 45 = mf S 45 := (sMarks_f _ _ _ 45).trans rfl
end C49
