/-! a world just made is the first world -/
theorem iw_z {j : Nat} (h4 : 4 ≤ j) (h7 : ¬ j = 7) (h : ¬ (104 ≤ j ∧ j < 168 ∧ ((j - 104) % 8 = 2 ∨ (j - 104) % 8 = 3))) : iw j = 0 := (iw_o h).trans (ir_z h4 h7)
theorem tr_z {n : Nat} {f : Row} (h : ∀ j, j < n → f j = 0) : tr n f = fun _ => 0 := by
  funext j
  unfold tr
  by_cases c : j < n
  · rw [if_pos c, h j c]
  · rw [if_neg c]
theorem wN_pw {B k r : Nat} {E : EE} (hr : r < 41) : wN B (wo k) E 12 8 r = pw E B k iw r := by
  unfold wN pw
  by_cases c0 : r = 0
  · rw [if_pos c0, if_pos c0]; rfl
  rw [if_neg c0, if_neg c0]
  by_cases c1 : r = 1
  · rw [if_pos c1, if_pos c1]
  rw [if_neg c1, if_neg c1]
  by_cases c2 : r = 2
  · rw [if_pos c2, if_pos c2]; rfl
  rw [if_neg c2, if_neg c2]
  by_cases c3 : r = 3
  · rw [if_pos c3, if_pos c3]; rfl
  rw [if_neg c3, if_neg c3]
  by_cases c4 : r = 4
  · rw [if_pos c4, if_pos c4, tr_z (fun j hj => iw_z (by omega) (by omega) (by omega))]
  rw [if_neg c4, if_neg c4]
  by_cases c5 : r < 17
  · rw [if_pos c5, if_pos c5, iw_z (j := 20 + 7 * (r - 5)) (by omega) (by omega) (by omega), iw_z (j := 20 + 7 * (r - 5) + 1) (by omega) (by omega) (by omega), iw_z (j := 20 + 7 * (r - 5) + 2) (by omega) (by omega) (by omega), iw_z (j := 20 + 7 * (r - 5) + 3) (by omega) (by omega) (by omega),
      iw_z (j := 360 + (r - 5)) (by omega) (by omega) (by omega), iw_z (j := 20 + 7 * (r - 5) + 4) (by omega) (by omega) (by omega), iw_z (j := 20 + 7 * (r - 5) + 5) (by omega) (by omega) (by omega), iw_z (j := 20 + 7 * (r - 5) + 6) (by omega) (by omega) (by omega)]
    rfl
  rw [if_neg c5, if_neg c5]
  by_cases c6 : (r - 17) % 3 = 0
  · obtain ⟨c, rfl⟩ : ∃ c, r = 17 + 3 * c := ⟨(r - 17) / 3, by omega⟩
    have e : (17 + 3 * c - 17) / 3 = c := by omega
    rw [if_pos c6, if_pos c6, e, iw_z (j := 104 + 8 * c) (by omega) (by omega) (by omega), iw_z (j := 104 + 8 * c + 1) (by omega) (by omega) (by omega), iw_6 (c := c) (f := 2) (by omega) (Or.inl rfl), iw_6 (c := c) (f := 3) (by omega) (Or.inr rfl),
      iw_z (j := 104 + 8 * c + 4) (by omega) (by omega) (by omega), iw_z (j := 104 + 8 * c + 5) (by omega) (by omega) (by omega), iw_z (j := 104 + 8 * c + 6) (by omega) (by omega) (by omega), iw_z (j := 104 + 8 * c + 7) (by omega) (by omega) (by omega),
      show 17 + 3 * c + 1 = 18 + 3 * c by omega, show 17 + 3 * c + 2 = 19 + 3 * c by omega]
  rw [if_neg c6, if_neg c6]
  by_cases c7 : (r - 17) % 3 = 1
  · rw [if_pos c7, tr_z (fun j hj => iw_z (by omega) (by omega) (by omega))]
  · rw [if_neg c7, tr_z (fun j hj => iw_z (by omega) (by omega) (by omega))]
