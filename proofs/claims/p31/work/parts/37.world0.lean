/-! a world under construction: pure rows -/
theorem rf_up {p : Nat} {g : Nat → Nat} : va_up (fun j => if j < p then some (g j) else none) p (some (g p)) = fun j => if j < p + 1 then some (g j) else none := by
  funext j
  by_cases e : j = p
  · subst e
    rw [show va_up (fun k => if k < j then some (g k) else none) j (some (g j)) j = some (g j) from if_pos rfl, if_pos (by omega)]
  · rw [show va_up (fun k => if k < p then some (g k) else none) p (some (g p)) j = (if j < p then some (g j) else none) from if_neg e]
    by_cases c : j < p
    · rw [if_pos c, if_pos (by omega)]
    · rw [if_neg c, if_neg (by omega)]
theorem rf_0 {g : Nat → Nat} : (fun j => if j < 0 then some (g j) else none) = fun _ : Nat => (none : Option Nat) := by
  funext j
  rw [if_neg (by omega)]
theorem cpy4 : va_cpy st_first (fun _ => 0) 0 0 4 = tr 4 iw := by
  funext j
  unfold va_cpy tr
  by_cases c : j < 4
  · rcases (show j = 0 ∨ j = 1 ∨ j = 2 ∨ j = 3 by omega) with e | e | e | e <;> subst e <;> rfl
  · simp [c]
