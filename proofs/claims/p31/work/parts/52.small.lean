/-- what the law divides by isn't 0 -/
def Zn (w : Row) : Prop := ∀ i, i < 12 → i < nn (w 5) → ¬ w (20 + 7 * i + 2) = 0
theorem cnt1 {g : GS} (h : Gn g) : ¬ sX6_count g 2 + 1 = 0 := by
  have h6 := (h.1 0 (by omega)).2.2
  have e : sX6_count g 2 = (g.1 0) 6 := rfl
  rw [e, h6.eq, nI_1]
  intro q
  have h8 := h6.le
  have := congrArg Int32.toInt q
  rw [nI_toInt (by omega), show (0 : Int32).toInt = 0 from by decide] at this
  omega
theorem cnt5_lt {g : GS} {p : Nat} (h : Gn g) (hp : p < 2 ^ 31) (hc : ¬ sX6_count g 1 ≤ nI p) : p < 12 := ((h.1 0 (by omega)).lt5 hp hc).2
theorem ofB2 {g : GS} {x : Int32} (h : Gn g) (hz : Zn (g.1 0)) : ¬ sX6_ofBridge g x 2 = 0 := by
  unfold sX6_ofBridge
  cases e : sX5_bridgeOf (g.1 0) x with
  | none => exact (show ¬ (-1 : Int32) = 0 by decide)
  | some q =>
    have hq := bridgeOf_some (h.1 0 (by omega)) e
    exact hz q hq.1 hq.2.2
theorem sign_lt {g : GS} {p : Nat} (h : Gn g) (hp : p ≤ 80) (hs : ¬ sX6_sign g.2.1 (nI p) < 48) : p < 80 := by
  unfold sX6_sign sX4_codeAt at hs
  by_cases h1 : nI p < 0
  · rw [if_pos h1] at hs; exact absurd (show (-1 : Int32) < 48 by decide) hs
  rw [if_neg h1] at hs
  by_cases h2 : (g.2.1) 3 ≤ nI p
  · rw [if_pos h2] at hs; exact absurd (show (-1 : Int32) < 48 by decide) hs
  · have := (not_congr (cnt_le (p := p) h.2.1 (by omega))).mp h2
    have := (show sm (g.2.1 3) 80 from h.2.1).le
    omega
