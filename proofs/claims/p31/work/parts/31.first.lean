/-! the first state of the class -/
def ir : Row := fun j => if j = 0 then 3 else if j = 1 then 1 else if j = 2 then 2 else if j = 3 then 5 else if j = 7 then 1 else 0
def iz : Row := fun _ => 0
def iw : Row := fun j => if 104 ≤ j ∧ j < 168 ∧ ((j - 104) % 8 = 2 ∨ (j - 104) % 8 = 3) then -6 else ir j
theorem ir_z {j : Nat} (h : 4 ≤ j) (h7 : ¬ j = 7) : ir j = 0 := by
  unfold ir
  rw [if_neg (by omega), if_neg (by omega), if_neg (by omega), if_neg (by omega), if_neg h7]
theorem iw_o {j : Nat} (h : ¬ (104 ≤ j ∧ j < 168 ∧ ((j - 104) % 8 = 2 ∨ (j - 104) % 8 = 3))) : iw j = ir j := if_neg h
theorem iw_6 {c f : Nat} (hc : c < 8) (hf : f = 2 ∨ f = 3) : iw (104 + 8 * c + f) = -6 := if_pos ⟨by omega, by omega, by omega⟩
