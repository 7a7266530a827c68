/-! the class just made: the picture of the first state, all but its own fields and the row of the slots -/
def g0 : GS := (fun _ => iw, iz, ())
def z7 : List Value := [.null, .null, .null, .null, .null, .null, .null]
def z2 : List Value := [.null, .int 0]
def z6 : List Value := [.null, .int 0, .int 0, .int 0, .int 0, .int 0]
def cP (B : Nat) (E : EE) (fs : List Value) (a : Nat → Option Nat) (j : Nat) : va_E := if j = 0 then .inr (6, fs) else if j = 372 then .inl (E.2 4, 2, .inr (.inr (.inr (.inr a)))) else pcT E B g0 j
section C1
variable {f : Nat → va_E} {B : Nat} {E : EE} {fs fs' : List Value} {a a' : Nat → Option Nat}
theorem cP_0 : cP B E fs a 0 = .inr (6, fs) := if_pos rfl
theorem cP_372 : cP B E fs a 372 = .inl (E.2 4, 2, .inr (.inr (.inr (.inr a)))) := by
  unfold cP
  rw [if_neg (by omega), if_pos rfl]
theorem cP_o {j : Nat} (h0 : ¬ j = 0) (h : ¬ j = 372) : cP B E fs a j = pcT E B g0 j := by
  unfold cP
  rw [if_neg h0, if_neg h]
theorem cP_up0 {n : Nat} : ∀ j, j < n → va_up (cP B E fs a) 0 (.inr (6, fs')) j = cP B E fs' a j := by
  intro j _
  by_cases e : j = 0
  · subst e
    rw [upf, cP_0]
  · rw [upf_ne e]
    unfold cP
    rw [if_neg e, if_neg e]
theorem cP_up3 {n : Nat} : ∀ j, j < n → va_up (cP B E fs a) 372 (.inl (E.2 4, 2, .inr (.inr (.inr (.inr a'))))) j = cP B E fs a' j := by
  intro j _
  by_cases e : j = 372
  · subst e
    rw [upf, cP_372]
  · rw [upf_ne e]
    unfold cP
    by_cases e0 : j = 0
    · rw [if_pos e0, if_pos e0]
    · rw [if_neg e0, if_neg e0, if_neg e, if_neg e]
theorem cP_W {k x : Nat} {e : va_E} (hk : k < 11) (hx : wo k = x) : ∀ j, j < x + 41 → wP (va_up (cP B E fs a) x e) B x E 12 8 j = cP B E fs a j := by
  subst hx
  intro j hj
  have hw := wo_lt hk
  by_cases c : j < wo k
  · rw [wP_lt c, upf_ne (by omega)]
  · obtain ⟨r, rfl⟩ : ∃ r, j = wo k + r := ⟨j - wo k, by omega⟩
    have hr : r < 41 := by omega
    have hi := wo_inW hk hr
    have h372 : ¬ wo k + r = 372 := fun q => by rw [q] at hi; unfold inW at hi; omega
    unfold wP
    rw [if_neg c, show wo k + r - wo k = r by omega, wN_pw hr, cP_o (by omega) h372, pcT_W hk hr]
    rfl
theorem cP_H {e : va_E} : ∀ j, j < 83 + 289 → hP (va_up (cP B E fs a) 83 e) B 83 E 7 j = cP B E fs a j := by
  intro j hj
  by_cases c : j < 83
  · unfold hP
    rw [if_pos c, upf_ne (by omega)]
  · rw [cP_o (by omega) (by omega)]
    by_cases e0 : j = 83
    · subst e0
      rw [hP_0, pcT_83]
      rfl
    by_cases e1 : j = 84
    · subst e1
      rw [show (84 : Nat) = 83 + 1 from rfl, hP_1, show (83 + 1 : Nat) = 84 from rfl, pcT_84]
      have e : (fun j => if j < 7 then some (B + (83 + (2 + 41 * j))) else none) = fun j => if j < 7 then some (B + wo (2 + j)) else none := by
        funext i
        by_cases hi : i < 7
        · rw [if_pos hi, if_pos hi]
          unfold wo
          rw [if_neg (by omega), if_pos (by omega), show 83 + (2 + 41 * i) = 85 + 41 * (2 + i - 2) by omega]
        · rw [if_neg hi, if_neg hi]
      rw [e]
      rfl
    · obtain ⟨k, hk⟩ : ∃ k, k = 2 + (j - 85) / 41 := ⟨_, rfl⟩
      have hk9 : k < 11 := by omega
      have hr : (j - 85) % 41 < 41 := by omega
      have ew : wo k = 83 + (2 + 41 * ((j - 85) / 41)) := by
        unfold wo
        rw [if_neg (by omega), if_pos (by omega)]
        omega
      have ej : j = wo k + (j - 85) % 41 := by omega
      unfold hP
      rw [if_neg c]
      unfold hN
      rw [if_neg (by omega), if_neg (by omega), show j - 83 - 2 = j - 85 by omega, ← ew, wN_pw hr]
      exact ((pcT_W (E := E) (B := B) (g := g0) hk9 hr).symm.trans (by rw [← ej]))
theorem cP_455 : ∀ j, j < 456 → va_up (cP B E fs a) 455 (.inl (E.2 1, 2, .inl (fun _ => 0))) j = cP B E fs a j := by
  intro j _
  by_cases e : j = 455
  · subst e
    rw [upf, cP_o (by omega) (by omega), pcT_455, tr_z (f := fun j => g0.2.1 (10 + j)) (fun j _ => rfl)]
  · rw [upf_ne e]
theorem cP_456 {e : va_E} : ∀ j, j < 458 → va_up (va_up (va_up (cP B E fs a) 456 e) 457 (.inl (E.2 0, 80, .inl (fun _ => 0)))) 456 (.inr (4, z2.set 0 (.ref (B + 457)))) j = cP B E fs a j := by
  intro j _
  by_cases e6 : j = 456
  · subst e6
    rw [upf, cP_o (by omega) (by omega), pcT_456]
    rfl
  · rw [upf_ne e6]
    by_cases e7 : j = 457
    · subst e7
      rw [upf, cP_o (by omega) (by omega), pcT_457, tr_z (f := fun j => g0.2.1 (100 + j)) (fun j _ => rfl)]
    · rw [upf_ne e7, upf_ne e6]
theorem cP_458 {e : va_E} : ∀ j, j < 459 → va_up (va_up (cP B E fs a) 458 e) 458 (.inr (3, z6.set 0 (.ref (B + 456)))) j = cP B E fs a j := by
  intro j _
  by_cases e8 : j = 458
  · subst e8
    rw [upf, cP_o (by omega) (by omega), pcT_458]
    rfl
  · rw [upf_ne e8, upf_ne e8]
theorem cP_end : ∀ j, j < 459 → cP B E (((((((z7.set 0 (.ref (B + 1))).set 1 (.ref (B + 42))).set 2 (.ref (B + 83))).set 3 (.ref (B + 372))).set 4 (.ref (B + 455))).set 5 (.ref (B + 456))).set 6 (.ref (B + 458))) (va_up (va_up (fun _ => none) 0 (some (B + 373))) 1 (some (B + 414))) j = pcT E B g0 j := by
  intro j _
  by_cases e0 : j = 0
  · subst e0
    rw [cP_0, pcT_0]
    rfl
  by_cases e3 : j = 372
  · subst e3
    rw [cP_372, pcT_372]
    have e : va_up (va_up (fun _ => none) 0 (some (B + 373))) 1 (some (B + 414)) = fun j => if j < 2 then some (B + wo (9 + j)) else none := by
      funext i
      by_cases h0 : i = 0
      · subst h0; rfl
      by_cases h1 : i = 1
      · subst h1; rfl
      rw [if_neg (by omega)]
      unfold va_up
      rw [if_neg h1, if_neg h0]
    rw [e]
    rfl
  exact cP_o e0 e3
end C1
theorem z7_ok : ∀ j, j < 7 → defaultValue (tyX6 j) = vp_V z7 j := fun j hj => by
  rcases (show j = 0 ∨ j = 1 ∨ j = 2 ∨ j = 3 ∨ j = 4 ∨ j = 5 ∨ j = 6 by omega) with rfl | rfl | rfl | rfl | rfl | rfl | rfl <;> rfl
theorem z3_ok : ∀ j, j < 3 → defaultValue (tyX2 j) = vp_V z3 j := fun j hj => by
  rcases (show j = 0 ∨ j = 1 ∨ j = 2 by omega) with rfl | rfl | rfl <;> rfl
theorem z2_ok : ∀ j, j < 2 → defaultValue (tyX4 j) = vp_V z2 j := fun j hj => by
  rcases (show j = 0 ∨ j = 1 by omega) with rfl | rfl <;> rfl
theorem z6_ok : ∀ j, j < 6 → defaultValue (tyX3 j) = vp_V z6 j := fun j hj => by
  rcases (show j = 0 ∨ j = 1 ∨ j = 2 ∨ j = 3 ∨ j = 4 ∨ j = 5 by omega) with rfl | rfl | rfl | rfl | rfl | rfl <;> rfl
