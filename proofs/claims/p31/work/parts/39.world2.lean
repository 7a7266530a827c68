/-! a world under construction: one cart more -/
def z11 : List Value := [.int 0, .int 0, .int 0, .int 0, .int 0, .int 0, .int 0, .int 0, .int 0, .null, .null]
theorem step_C {f : Nat → va_E} {B o c : Nat} {E : EE} (hc : c < 8) : ∀ j, j < o + (17 + 3 * c) + 3 →
    va_up (ctF (va_up (wP f B o E 12 c) (o + (17 + 3 * c)) (.inr (1, z11))) B (o + (17 + 3 * c) + 1) (o + (17 + 3 * c)) E z11 (nI c)) (o + 3) (.inl (E.2 3, 8, .inr (.inr (.inr (.inr (va_up (fun j => if j < c then some (B + (o + (17 + 3 * j))) else none) c (some (B + (o + (17 + 3 * c)))))))))) j = wP f B o E 12 (c + 1) j := by
  intro j hj
  by_cases e3 : j = o + 3
  · subst e3
    rw [upf, rf_up (g := fun j => B + (o + (17 + 3 * j)))]
    unfold wP wN
    rw [if_neg (by omega), show o + 3 - o = 3 by omega, if_neg (by omega), if_neg (by omega), if_neg (by omega), if_pos rfl]
  · rw [upf_ne e3]
    unfold ctF
    by_cases e17 : j = o + (17 + 3 * c)
    · subst e17
      rw [upf]
      unfold wP wN
      rw [if_neg (by omega), show o + (17 + 3 * c) - o = 17 + 3 * c by omega, if_neg (by omega), if_neg (by omega), if_neg (by omega), if_neg (by omega), if_neg (by omega), if_neg (by omega), if_pos (by omega), show (17 + 3 * c - 17) / 3 = c by omega,
        show o + (17 + 3 * c) + 1 = o + (17 + 3 * c + 1) by omega, show o + (17 + 3 * c + 1) + 1 = o + (17 + 3 * c + 2) by omega]
      rfl
    · rw [upf_ne e17, upf_ne e17]
      by_cases e19 : j = o + (17 + 3 * c) + 1 + 1
      · subst e19
        rw [upf]
        unfold wP wN
        rw [if_neg (by omega), show o + (17 + 3 * c) + 1 + 1 - o = 19 + 3 * c by omega, if_neg (by omega), if_neg (by omega), if_neg (by omega), if_neg (by omega), if_neg (by omega), if_neg (by omega), if_neg (by omega)]
      · rw [upf_ne e19, upf_ne e17]
        by_cases e18 : j = o + (17 + 3 * c) + 1
        · subst e18
          rw [upf]
          unfold wP wN
          rw [if_neg (by omega), show o + (17 + 3 * c) + 1 - o = 18 + 3 * c by omega, if_neg (by omega), if_neg (by omega), if_neg (by omega), if_neg (by omega), if_neg (by omega), if_neg (by omega), if_neg (by omega)]
        · rw [upf_ne e18, upf_ne e17, upf_ne e17, upf_ne e17]
          unfold wP
          by_cases d : j < o
          · rw [if_pos d, if_pos d]
          · rw [if_neg d, if_neg d]
            unfold wN
            by_cases c0 : j - o = 0
            · rw [if_pos c0, if_pos c0]
            · rw [if_neg c0, if_neg c0]
              by_cases c1 : j - o = 1
              · rw [if_pos c1, if_pos c1]
              · rw [if_neg c1, if_neg c1]
                by_cases c2 : j - o = 2
                · rw [if_pos c2, if_pos c2]
                · rw [if_neg c2, if_neg c2, if_neg (show ¬ j - o = 3 by omega), if_neg (show ¬ j - o = 3 by omega)]
