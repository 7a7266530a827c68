/-! what copyFrom comes to -/
theorem cfB {w w2 : Row} {i j : Nat} (hi : i < 12) (hj : j < 372) : sX0_copyFrom w w2 i j = if ow j = 5 + i then w2 j else w j := by
  have e : ∀ f, f < 7 → ow (20 + 7 * i + f) = 5 + i := fun f hf => ow_B hi hf
  by_cases h : ow j = 5 + i
  · rw [if_pos h]
    have hc : j = 20 + 7 * i ∨ j = 20 + 7 * i + 1 ∨ j = 20 + 7 * i + 2 ∨ j = 20 + 7 * i + 3 ∨ j = 20 + 7 * i + 4 ∨ j = 20 + 7 * i + 5 ∨ j = 20 + 7 * i + 6 ∨ j = 360 + i := by
      unfold ow at h
      (repeat' split at h) <;> omega
    unfold sX0_copyFrom upd
    rcases hc with h | h | h | h | h | h | h | h <;> (subst h; (repeat' split) <;> first | rfl | omega)
  · rw [if_neg h]
    have n : ∀ f, f < 7 → ¬ j = 20 + 7 * i + f := fun f hf q => h (by rw [q]; exact e f hf)
    have n0 : ¬ j = 20 + 7 * i := n 0 (by omega)
    have nw : ¬ j = 360 + i := fun q => h (by rw [q]; exact ow_Bw hi)
    unfold sX0_copyFrom upd
    simp only [n0, n 1 (by omega), n 2 (by omega), n 3 (by omega), n 4 (by omega), n 5 (by omega), n 6 (by omega), nw, if_false]
theorem cfC {w w2 : Row} {i j : Nat} (hi : i < 8) (hj : j < 372) : sX1_copyFrom w w2 i j = if ow j = 17 + 3 * i ∨ ow j = 18 + 3 * i ∨ ow j = 19 + 3 * i then w2 j else w j := by
  have e : ∀ f, f < 8 → ow (104 + 8 * i + f) = 17 + 3 * i := fun f hf => ow_C hi hf
  unfold sX1_copyFrom
  by_cases h1 : ow j = 19 + 3 * i
  · rw [cpw_in h1, if_pos (Or.inr (Or.inr h1))]
  rw [cpw_out h1]
  by_cases h2 : ow j = 18 + 3 * i
  · rw [cpw_in h2, if_pos (Or.inr (Or.inl h2))]
  rw [cpw_out h2]
  by_cases h : ow j = 17 + 3 * i
  · rw [if_pos (Or.inl h)]
    have hc : j = 104 + 8 * i ∨ j = 104 + 8 * i + 1 ∨ j = 104 + 8 * i + 2 ∨ j = 104 + 8 * i + 3 ∨ j = 104 + 8 * i + 4 ∨ j = 104 + 8 * i + 5 ∨ j = 104 + 8 * i + 6 ∨ j = 104 + 8 * i + 7 := by
      unfold ow at h
      (repeat' split at h) <;> omega
    unfold upd
    rcases hc with h | h | h | h | h | h | h | h <;> (subst h; (repeat' split) <;> first | rfl | omega)
  · rw [if_neg (by omega)]
    have n : ∀ f, f < 8 → ¬ j = 104 + 8 * i + f := fun f hf q => h (by rw [q]; exact e f hf)
    have n0 : ¬ j = 104 + 8 * i := n 0 (by omega)
    unfold upd
    simp only [n0, n 1 (by omega), n 2 (by omega), n 3 (by omega), n 4 (by omega), n 5 (by omega), n 6 (by omega), n 7 (by omega), if_false]
theorem cfW2 {w2 : Row} : ∀ (n : Nat) (w : Row) (p : Nat), p ≤ 8 → 8 - p < n → (∀ j, ¬ j = 11 → j < 372 → (ow j < 17 + 3 * p ∧ ¬ ow j = 0) → w j = w2 j) → eqw (bX5_copyFrom_60 w2 n w p) w2 := by
  intro n
  induction n with
  | zero => intro w p _ h; omega
  | succ n ih =>
    intro w p hp hn h
    rw [bX5_copyFrom_60]
    by_cases h1 : 8 ≤ nI p
    · rw [if_pos h1]
      have hp8 : p = 8 := by
        rcases Nat.lt_or_ge p 8 with q | q
        · exact absurd h1 (nI_ge (a := p) (b := 8) q (by decide))
        · omega
      subst hp8
      intro j h11 hj
      by_cases h0 : ow j = 0
      · have hc : j = 4 ∨ j = 5 ∨ j = 6 ∨ j = 7 ∨ j = 8 ∨ j = 9 ∨ j = 10 := by
          unfold ow at h0
          (repeat' split at h0) <;> omega
        unfold upd
        rcases hc with q | q | q | q | q | q | q <;> (subst q; rfl)
      · have hw := h j h11 hj ⟨by unfold ow; (repeat' split) <;> omega, h0⟩
        have n : ∀ f, ow f = 0 → ¬ j = f := fun f hf q => h0 (by rw [q]; exact hf)
        unfold upd
        simp only [n 4 rfl, n 5 rfl, n 6 rfl, n 7 rfl, n 8 rfl, n 9 rfl, n 10 rfl, if_false]
        exact hw
    · rw [if_neg h1]
      have hp2 := lit_lt (n := 8) h1 (by omega) (by omega)
      refine ih _ _ (by omega) (by omega) (fun j h11 hj h3 => ?_)
      rw [cfC hp2 hj]
      split
      · rfl
      · exact h j h11 hj ⟨by omega, h3.2⟩
theorem cfW1 {w2 : Row} : ∀ (n : Nat) (w : Row) (p : Nat), p ≤ 12 → 12 - p < n → (∀ j, ¬ j = 11 → j < 372 → (ow j < 5 + p ∧ ¬ ow j = 0) → w j = w2 j) → eqw (bX5_copyFrom_31 w2 n w p) w2 := by
  intro n
  induction n with
  | zero => intro w p _ h; omega
  | succ n ih =>
    intro w p hp hn h
    rw [bX5_copyFrom_31]
    by_cases h1 : 12 ≤ nI p
    · rw [if_pos h1]
      have hp8 : p = 12 := by
        rcases Nat.lt_or_ge p 12 with q | q
        · exact absurd h1 (nI_ge (a := p) (b := 12) q (by decide))
        · omega
      subst hp8
      exact cfW2 _ _ _ (by omega) (by omega) (fun j h11 hj h3 => h j h11 hj ⟨by omega, h3.2⟩)
    · rw [if_neg h1]
      have hp2 := lit_lt (n := 12) h1 (by omega) (by omega)
      refine ih _ _ (by omega) (by omega) (fun j h11 hj h3 => ?_)
      rw [cfB hp2 hj]
      split
      · rfl
      · exact h j h11 hj ⟨by omega, h3.2⟩
theorem cfW {w w2 : Row} : eqw (sX5_copyFrom w w2) w2 := by
  unfold sX5_copyFrom
  refine cfW1 _ _ _ (by omega) (by omega) (fun j h11 hj h3 => ?_)
  have h2 : ow j = 1 ∨ ow j = 4 := by
    unfold ow at h3 ⊢
    (repeat' split at h3) <;> (repeat' split) <;> omega
  by_cases h4 : ow j = 4
  · rw [cpw_in h4]
  · rw [cpw_out h4, cpw_in (by omega)]
theorem nX5_copyFrom (l : Launch) (E : EE) (B : Nat) (g : GS) (k k2 : Nat) (hk : k < 11) (hk2 : k2 < 11) (hne : ¬ k2 = k) : CG l yX5_copyFrom cX5_copyFrom 3 none 2 61 E B [.ref (B + wo k), .ref (B + wo k2)] g none (upW g k (g.1 k2)) := by
  have h := mX5_copyFrom l E B g k k2 (g.1 k) (g.1 k2) hk hk2 hne rfl
  rw [upW_self] at h
  have e := pcT_eqw (E := E) (B := B) (k := k) (g := g) (cfW (w := g.1 k) (w2 := g.1 k2))
  unfold CG at h ⊢
  rw [e] at h
  exact h
theorem nlt_lit {v : Int32} {n m : Nat} (h : ¬ nI n ≤ v) (hv : sm v m) (hn : n < 2 ^ 31) : nn v < n := by
  rw [Int32.le_iff_toInt_le, nI_toInt hn] at h
  have := nn_toInt hv.1; omega
