/-! a world under construction: the picture with p bridges and c carts, over f below o -/
def z9 : List Value := [.int 0, .int 0, .int 0, .int 0, .int 0, .int 0, .int 0, .int 0, .int 0]
def wN (B o : Nat) (E : EE) (p c : Nat) (r : Nat) : va_E :=
  if r = 0 then .inr (5, [.ref (B + (o + 1)), .ref (B + (o + 2)), .ref (B + (o + 3)), .ref (B + (o + 4)), .int 0, .int 0, .int 0, .int 1, .int 0, .int 0, .int 0])
  else if r = 1 then .inl (E.2 0, 4, .inl (tr 4 iw))
  else if r = 2 then .inl (E.2 2, 12, .inr (.inr (.inr (.inr (fun j => if j < p then some (B + (o + (5 + j))) else none)))))
  else if r = 3 then .inl (E.2 3, 8, .inr (.inr (.inr (.inr (fun j => if j < c then some (B + (o + (17 + 3 * j))) else none)))))
  else if r = 4 then .inl (E.2 0, 8, .inl (fun _ => 0))
  else if r < 17 then .inr (0, z9.set 0 (.int (nI (r - 5))))
  else if (r - 17) % 3 = 0 then .inr (1, [.int (nI ((r - 17) / 3)), .int 0, .int 0, .int (-6), .int (-6), .int 0, .int 0, .int 0, .int 0, .ref (B + (o + (r + 1))), .ref (B + (o + (r + 2)))])
  else .inl (E.2 0, 12, .inl (fun _ => 0))
def wP (f : Nat → va_E) (B o : Nat) (E : EE) (p c : Nat) (j : Nat) : va_E := if j < o then f j else wN B o E p c (j - o)
theorem step_B {f : Nat → va_E} {B o p : Nat} {E : EE} (hp : p < 12) : ∀ j, j < o + (5 + p) + 1 →
    va_up (va_up (va_up (wP f B o E p 0) (o + (5 + p)) (.inr (0, z9))) (o + (5 + p)) (.inr (0, z9.set 0 (.int (nI p))))) (o + 2) (.inl (E.2 2, 12, .inr (.inr (.inr (.inr (va_up (fun j => if j < p then some (B + (o + (5 + j))) else none) p (some (B + (o + (5 + p)))))))))) j = wP f B o E (p + 1) 0 j := by
  intro j hj
  by_cases e2 : j = o + 2
  · subst e2
    rw [upf, rf_up (g := fun j => B + (o + (5 + j)))]
    unfold wP wN
    rw [if_neg (by omega), show o + 2 - o = 2 by omega, if_neg (by omega), if_neg (by omega), if_pos rfl]
  · rw [upf_ne e2]
    by_cases e5 : j = o + (5 + p)
    · subst e5
      rw [upf]
      unfold wP wN
      rw [if_neg (by omega), show o + (5 + p) - o = 5 + p by omega, if_neg (by omega), if_neg (by omega), if_neg (by omega), if_neg (by omega), if_neg (by omega), if_pos (by omega), show 5 + p - 5 = p by omega]
    · rw [upf_ne e5, upf_ne e5]
      unfold wP
      by_cases c : j < o
      · rw [if_pos c, if_pos c]
      · rw [if_neg c, if_neg c]
        unfold wN
        by_cases c0 : j - o = 0
        · rw [if_pos c0, if_pos c0]
        · rw [if_neg c0, if_neg c0]
          by_cases c1 : j - o = 1
          · rw [if_pos c1, if_pos c1]
          · rw [if_neg c1, if_neg c1, if_neg (show ¬ j - o = 2 by omega), if_neg (show ¬ j - o = 2 by omega)]
