section C56
variable {sv : Nat} {G : GM} {S S1 : MS} {m : QM} {t : Int} {i d c w p z k : Int}
theorem q3 {P : PX Int32} {g : Bool} {v w : Int32} (hP : P S = if g = true then some (v, setf S 45 0) else some (w, setf S 45 1)) : P S = some (if g = true then v else w, setf S 45 (gc g true true)) := by
  rw [hP]; cases g <;> rfl
theorem q2 {P : PX Int32} {a b c : Bool} {v w : Int32} (hP : P S = if (a && b && c) = true then some (v, setf S 45 0) else some (w, setf S 45 (gc a b c))) : P S = some (if (a && b && c) = true then v else w, setf S 45 (gc a b c)) := by
  rw [hP]
  by_cases g : (a && b && c) = true
  · rw [if_pos g, if_pos g, gc0 g]
  · rw [if_neg g, if_neg g]
end C56
