/-! texts: both readers go alike -/
def RK (u0 r0 : Row) (L : List (Nat × Nat)) (c r : Row) : Prop := TT u0 r0 c r ∧ c 4 = r 2 ∧ ∀ q, q ∈ L → c q.1 = r q.2 ∧ (q.1 = 5 → c q.1 = u0 5)
abbrev kL (L : List (Nat × Nat)) : Prop := ∀ q, q ∈ L → (5 ≤ q.1 ∧ q.1 < 10) ∧ 3 ≤ q.2 ∧ q.2 < 10
section RD
variable {u0 r0 c r : Row} {L : List (Nat × Nat)}
theorem RK.nil (h : RK u0 r0 L c r) : RK u0 r0 [] c r := ⟨h.1, h.2.1, fun _ q => absurd q (List.not_mem_nil)⟩
theorem RK.len (h : RK u0 r0 L c r) : c 3 = r 1 := h.1.1.1
theorem RK.wr (h : RK u0 r0 L c r) {i j : Nat} {v : Int32} (hv : i = 5 → v = u0 5) (hi : 5 ≤ i ∧ i < 10) (hj : 3 ≤ j ∧ j < 10) (hf : ∀ q, q ∈ L → ¬ q.1 = i ∧ ¬ q.2 = j) : RK u0 r0 ((i, j) :: L) (upd c i v) (upd r j v) := by
  obtain ⟨⟨g, p, a, b⟩, e, l⟩ := h
  refine ⟨⟨⟨by rw [updn (by omega), updn (by omega)]; exact g.1, fun k hk => ?_⟩, ⟨by rw [updn (by omega)]; exact p.1, by rw [updn (by omega)]; exact p.2⟩, ?_, ?_⟩, by rw [updn (by omega), updn (by omega)]; exact e, fun q hq => ?_⟩
  · rw [updn (by omega)] at hk
    rw [updn (by omega), updn (by omega)]; exact g.2 k hk
  · rw [updn (by omega), updn (by omega), updn (by omega), updn (by omega)]; exact a
  · rw [updn (by omega), updn (by omega), updn (by omega)]; exact b
  · rcases List.mem_cons.mp hq with k | k
    · rw [k]; exact ⟨(upde (w := c)).trans (upde (w := r)).symm, fun e => (upde (w := c)).trans (hv e)⟩
    · have := hf q k
      rw [updn this.1, updn this.2]; exact l q k
theorem RK.at (h : RK u0 r0 L c r) (hk : kL L) {v : Int32} (hv : sm v 80) : RK u0 r0 L (upd c 4 v) (upd r 2 v) := by
  obtain ⟨⟨g, p, a, b⟩, e, l⟩ := h
  refine ⟨⟨⟨by rw [updn (by omega), updn (by omega)]; exact g.1, fun k hk => ?_⟩, ⟨by rw [updn (by omega)]; exact p.1, by rw [upde]; exact hv⟩, ?_, ?_⟩, by rw [upde, upde], fun q hq => ?_⟩
  · rw [updn (by omega)] at hk
    rw [updn (by omega), updn (by omega)]; exact g.2 k hk
  · rw [updn (by omega), updn (by omega), updn (by omega), updn (by omega)]; exact a
  · rw [updn (by omega), updn (by omega), updn (by omega)]; exact b
  · have := hk q hq
    rw [updn (by omega), updn (by omega)]; exact l q hq
theorem RK.pos (h : RK u0 r0 L c r) (hk : kL L) (hl : nn (r 2) < nn (r 1)) : RK u0 r0 L (upd c 4 (c 4 + 1)) (upd r 2 (r 2 + 1)) := by
  rw [h.2.1]
  have a := h.1.2.1.1.le
  have b := nn_inc h.1.2.1.2 (by omega)
  exact h.at hk (sm_lt b.2 (by rw [b.1]; omega))
theorem z_le (h : RK u0 r0 L c r) : r 1 ≤ r 2 ↔ nn (r 1) ≤ nn (r 2) := by
  have p := h.1.2.1
  have a := nn_toInt p.1.1
  have b := nn_toInt p.2.1
  rw [Int32.le_iff_toInt_le]; omega
theorem codeAt_end (h : RK u0 r0 L c r) (hl : nn (r 1) ≤ nn (r 2)) : sX4_codeAt c (c 4) = -1 := by
  have p := h.1.2.1
  unfold sX4_codeAt
  rw [h.2.1, h.len]
  by_cases a : r 2 < 0
  · rw [if_pos a]
  · rw [if_neg a, if_pos ((z_le h).mpr hl)]
theorem codeAt_in (h : RK u0 r0 L c r) (hl : nn (r 2) < nn (r 1)) : sX4_codeAt c (c 4) = r (100 + nn (r 2)) ∧ 33 ≤ (r (100 + nn (r 2))).toInt ∧ (r (100 + nn (r 2))).toInt ≤ 126 := by
  have p := h.1.2.1
  have g := h.1.1.2 _ hl
  have e0 : (0 : Int32).toInt = 0 := by decide
  unfold sX4_codeAt
  rw [h.2.1, h.len, if_neg (show ¬ r 2 < 0 by rw [Int32.lt_iff_toInt_lt, e0]; have := p.2.1; omega), if_neg (fun q => by have := (z_le h).mp q; omega)]
  exact g
theorem here_end {x y : Int32} (h : RK u0 r0 L c r) (hl : nn (r 1) ≤ nn (r 2)) : sX7_isHere r x y = 0 := by
  unfold sX7_isHere
  rw [if_pos ((z_le h).mpr hl)]
theorem here_in {x y : Int32} (h : RK u0 r0 L c r) (hl : nn (r 2) < nn (r 1)) : ¬ sX7_isHere r x y = 0 ↔ x.toInt ≤ (r (100 + nn (r 2))).toInt ∧ (r (100 + nn (r 2))).toInt ≤ y.toInt := by
  unfold sX7_isHere
  rw [if_neg (fun q => by have := (z_le h).mp q; omega)]
  have k := in_32 (x := r (100 + nn (r 2))) (y := x.toInt64) (z := y.toInt64)
  rw [Int32.toInt_toInt64, Int32.toInt_toInt64] at k
  by_cases a : sX7_in (r (100 + nn (r 2))).toInt64 x.toInt64 y.toInt64 = 0
  · rw [if_pos a]
    exact ⟨fun q => absurd rfl q, fun q => absurd a (k.mpr q)⟩
  · rw [if_neg a]
    exact ⟨fun _ => k.mp a, fun _ => by decide⟩
theorem upd0 {r : Row} {i : Nat} : upd r i (r i + 0) = r := upd_id (by
  refine Int32.toInt_inj.mp ?_
  rw [Int32.toInt_add, show (0 : Int32).toInt = 0 from by decide, Int.add_zero]
  have := (r i).toInt_lt
  have := (r i).le_toInt
  rw [Int.bmod_eq_of_le (by omega) (by omega)])
theorem here_b {x y : Int32} : sX7_isHere r x y = 0 ∨ sX7_isHere r x y = 1 := by
  unfold sX7_isHere
  by_cases a : r 1 ≤ r 2
  · rw [if_pos a]; exact Or.inl rfl
  · rw [if_neg a]
    by_cases b : sX7_in (r (100 + nn (r 2))).toInt64 x.toInt64 y.toInt64 = 0
    · rw [if_pos b]; exact Or.inl rfl
    · rw [if_neg b]; exact Or.inr rfl
theorem dig_cases (h : RK u0 r0 L c r) : (sX3_nextDigit c = (-6, c) ∧ sX7_digit r = (-6, r) ∧ sX7_isHere r 48 57 = 0) ∨
    ∃ d, d < 10 ∧ sX3_nextDigit c = (nI d, upd c 4 (c 4 + 1)) ∧ sX7_digit r = (nI d, upd r 2 (r 2 + 1)) ∧ ¬ sX7_isHere r 48 57 = 0 ∧ (r (100 + nn (r 2))).toInt = 48 + d ∧ nn (r 2) < nn (r 1) := by
  have e48 : (48 : Int32).toInt = 48 := by decide
  have e57 : (57 : Int32).toInt = 57 := by decide
  unfold sX3_nextDigit sX7_digit
  rcases Nat.lt_or_ge (nn (r 2)) (nn (r 1)) with q | q
  · have k := codeAt_in h q
    have m := here_in (x := 48) (y := 57) h q
    rw [e48, e57] at m
    rw [k.1]
    generalize hv : r (100 + nn (r 2)) = v at *
    by_cases a : v < 48
    · rw [if_pos a]
      rw [Int32.lt_iff_toInt_lt, e48] at a
      have z : sX7_isHere r 48 57 = 0 := Classical.byContradiction fun q => by have := m.mp q; omega
      rw [if_pos z, upd0]; exact Or.inl ⟨rfl, rfl, z⟩
    · rw [if_neg a]
      rw [Int32.lt_iff_toInt_lt, e48] at a
      by_cases b : v ≤ 57
      · rw [if_pos b]
        rw [Int32.le_iff_toInt_le, e57] at b
        have z : ¬ sX7_isHere r 48 57 = 0 := m.mpr ⟨by omega, by omega⟩
        have ts : (v - 48).toInt = v.toInt - 48 := by rw [Int32.toInt_sub, e48, Int.bmod_eq_of_le (by omega) (by omega)]
        have e : v - 48 = nI (v.toInt - 48).toNat := Int32.toInt_inj.mp (by rw [ts, nI_toInt (by omega)]; omega)
        rw [if_neg z, if_neg (show ¬ v - 48 = -6 from fun q => by have := congrArg Int32.toInt q; rw [ts, show (-6 : Int32).toInt = -6 from by decide] at this; omega), e]
        exact Or.inr ⟨_, by omega, rfl, rfl, z, by omega, q⟩
      · rw [if_neg b]
        rw [Int32.le_iff_toInt_le, e57] at b
        have z : sX7_isHere r 48 57 = 0 := Classical.byContradiction fun q => by have := m.mp q; omega
        rw [if_pos z, upd0]; exact Or.inl ⟨rfl, rfl, z⟩
  · have z := here_end (x := 48) (y := 57) h q
    rw [codeAt_end h q, if_pos (show (-1 : Int32) < 48 by decide), if_pos z, upd0]
    exact Or.inl ⟨rfl, rfl, z⟩
theorem sign_cases (h : RK u0 r0 L c r) {v : Int32} (hv : ¬ v = -1) : (sX3_readSign c v = (0, c) ∧ sX7_takes r v = (0, r)) ∨ (sX3_readSign c v = (1, upd c 4 (c 4 + 1)) ∧ sX7_takes r v = (1, upd r 2 (r 2 + 1)) ∧ nn (r 2) < nn (r 1)) := by
  unfold sX3_readSign sX7_takes
  rcases Nat.lt_or_ge (nn (r 2)) (nn (r 1)) with q | q
  · have k := codeAt_in h q
    have m := here_in (x := v) (y := v) h q
    rw [k.1]
    by_cases a : r (100 + nn (r 2)) = v
    · have z : ¬ sX7_isHere r v v = 0 := m.mpr ⟨by rw [a]; omega, by rw [a]; omega⟩
      rw [if_pos a, if_neg z, here_b.resolve_left z]
      exact Or.inr ⟨rfl, rfl, q⟩
    · have z : sX7_isHere r v v = 0 := Classical.byContradiction fun q => a (Int32.toInt_inj.mp (by have := m.mp q; omega))
      rw [if_neg a, if_pos z, z, upd0]; exact Or.inl ⟨rfl, rfl⟩
  · have z := here_end (x := v) (y := v) h q
    rw [codeAt_end h q, if_neg (fun q => hv q.symm), if_pos z, z, upd0]
    exact Or.inl ⟨rfl, rfl⟩
def OK0 (u0 r0 : Row) (L : List (Nat × Nat)) (f g : Int32 × Row) : Prop := f.1 = g.1 ∧ RK u0 r0 L f.2 g.2
def OK1 (u0 r0 : Row) (L : List (Nat × Nat)) (f g : Int32 × Row) : Prop := f.1 = g.1 ∧ RK u0 r0 [] f.2 g.2 ∧ (¬ f.1 = 0 → RK u0 r0 L f.2 g.2)
theorem digit_ok (h : RK u0 r0 L c r) (hk : kL L) : OK0 u0 r0 L (sX3_nextDigit c) (sX7_digit r) := by
  rcases dig_cases h with ⟨a, b, _⟩ | ⟨d, _, a, b, _, _, hl⟩
  · rw [a, b]; exact ⟨rfl, h⟩
  · rw [a, b]; exact ⟨rfl, h.pos hk hl⟩
theorem sign_OK (h : RK u0 r0 L c r) (hk : kL L) {v : Int32} (hv : ¬ v = -1) : OK1 u0 r0 L (sX3_readSign c v) (sX7_takes r v) := by
  rcases sign_cases h hv with ⟨a, b⟩ | ⟨a, b, hl⟩
  · rw [a, b]; exact ⟨rfl, h.nil, fun q => absurd rfl q⟩
  · rw [a, b]; exact ⟨rfl, (h.pos hk hl).nil, fun _ => h.pos hk hl⟩
theorem num_loop (hk : kL L) : ∀ (n m : Nat) (c r : Row) (v : Int32) (p : Nat), 1 ≤ p → p ≤ 4 → 4 - p < n → 4 - p < m → 10 ^ (p - 1) ≤ v.toInt → v.toInt < 10 ^ p → RK u0 r0 L c r →
    OK0 u0 r0 L (bX3_readNumber_19 n c v p) (bX7_number_5 m r v) := by
  intro n
  induction n with
  | zero => intro m c r v p _ _ h; omega
  | succ n ih =>
    intro m c r v p h1 h4 hn hm hv1 hv2 h
    cases m with
    | zero => omega
    | succ m =>
      have i := in_32 (x := v) (y := 1) (z := 999)
      rw [show (1 : Int64).toInt = 1 from by decide, show (999 : Int64).toInt = 999 from by decide] at i
      rw [bX3_readNumber_19, bX7_number_5]
      by_cases a : 4 ≤ nI p
      · rw [if_pos a]
        have e : p = 4 := by
          rcases Nat.lt_or_ge p 4 with q | q
          · exact absurd a (nI_ge (b := 4) q (by decide))
          · omega
        subst e
        rw [if_pos (Classical.byContradiction fun q => by have := i.mp q; have : (10 : Int) ^ (4 - 1) = 1000 := by decide
                                                          omega)]
        exact ⟨rfl, h⟩
      · rw [if_neg a]
        have hp := lit_lt (n := 4) a (by omega) (by omega)
        have b999 : 1 ≤ v.toInt ∧ v.toInt ≤ 999 := by
          rcases (show p = 1 ∨ p = 2 ∨ p = 3 by omega) with e | e | e <;> subst e
          · have : (10 : Int) ^ (1 - 1) = 1 := by decide
            have : (10 : Int) ^ 1 = 10 := by decide
            omega
          · have : (10 : Int) ^ (2 - 1) = 10 := by decide
            have : (10 : Int) ^ 2 = 100 := by decide
            omega
          · have : (10 : Int) ^ (3 - 1) = 100 := by decide
            have : (10 : Int) ^ 3 = 1000 := by decide
            omega
        rw [if_neg (i.mpr b999)]
        rcases dig_cases h with ⟨a, b, z⟩ | ⟨d, hd, a, b, z, hc, hl⟩
        · rw [a, if_pos rfl, if_pos z]; exact ⟨rfl, h⟩
        · rw [a, if_neg (show ¬ (nI d, upd c 4 (c 4 + 1)).1 = -6 from nn_neg6 (by omega)), if_neg z]
          have e10 : (10 : Int32).toInt = 10 := by decide
          have m1 : (10 * v).toInt = 10 * v.toInt := by rw [Int32.toInt_mul, e10, Int.bmod_eq_of_le (by omega) (by omega)]
          have s1 : (10 * v + nI d).toInt = 10 * v.toInt + d := by rw [Int32.toInt_add, m1, nI_toInt (by omega), Int.bmod_eq_of_le (by omega) (by omega)]
          have s2 : (10 * v + r (100 + nn (r 2))).toInt = 10 * v.toInt + (48 + d) := by rw [Int32.toInt_add, m1, hc, Int.bmod_eq_of_le (by omega) (by omega)]
          have e : 10 * v + r (100 + nn (r 2)) - 48 = 10 * v + nI d := Int32.toInt_inj.mp (by
            rw [Int32.toInt_sub, s1, s2, show (48 : Int32).toInt = 48 from by decide, Int.bmod_eq_of_le (by omega) (by omega)]; omega)
          rw [e]
          refine ih m _ _ _ (p + 1) (by omega) (by omega) (by omega) (by omega) ?_ ?_ (h.pos hk hl)
          · show _ ≤ (10 * v + nI d).toInt
            rw [s1]
            have : (10 : Int) ^ (p + 1 - 1) = 10 ^ (p - 1) * 10 := by
              rw [← Int.pow_succ]; congr 1; omega
            omega
          · show (10 * v + nI d).toInt < _
            rw [s1, Int.pow_succ]
            omega
theorem num_ok (h : RK u0 r0 L c r) (hk : kL L) : OK0 u0 r0 L (sX3_readNumber c) (sX7_number r) := by
  have i0 : ∀ v : Int32, v.toInt ≤ 0 → sX7_in v.toInt64 1 999 = 0 := fun v hv => Classical.byContradiction fun q => by
    have := in_32.mp q
    rw [show (1 : Int64).toInt = 1 from by decide] at this
    omega
  unfold sX3_readNumber sX7_number
  rcases dig_cases h with ⟨a, b, _⟩ | ⟨d, hd, a, b, z, hc, hl⟩
  · rw [a, b, if_pos rfl, bX7_number_5, if_pos (i0 (-6) (by decide))]
    exact ⟨rfl, h⟩
  · rw [a, b, if_neg (show ¬ (nI d, upd c 4 (c 4 + 1)).1 = -6 from nn_neg6 (by omega))]
    by_cases d0 : d = 0
    · subst d0
      rw [if_pos (show (nI 0, upd c 4 (c 4 + 1)).1 = 0 from rfl), bX7_number_5, if_pos (i0 (nI 0) (by decide))]
      exact ⟨rfl, h.pos hk hl⟩
    · have td : (nI d).toInt = (d : Int) := nI_toInt (by omega)
      rw [if_neg (show ¬ (nI d, upd c 4 (c 4 + 1)).1 = 0 from fun q => by
        have := congrArg Int32.toInt (show nI d = 0 from q)
        rw [td, show (0 : Int32).toInt = 0 from by decide] at this; omega)]
      refine num_loop hk 4 81 _ _ _ 1 (by omega) (by omega) (by omega) (by omega) ?_ ?_ (h.pos hk hl)
      · show (10 : Int) ^ (1 - 1) ≤ (nI d).toInt
        rw [td]; have : (10 : Int) ^ (1 - 1) = 1 := by decide
        omega
      · show (nI d).toInt < (10 : Int) ^ 1
        rw [td]; have : (10 : Int) ^ 1 = 10 := by decide
        omega
def wr1 (f : Int32 × Row) (i : Nat) : Int32 × Row := if (upd f.2 i f.1) i = -6 then (0, upd f.2 i f.1) else (1, upd f.2 i f.1)
theorem wr_OK {f g : Int32 × Row} {i j : Nat} (h : OK0 u0 r0 L f g) (hi : 5 < i ∧ i < 10) (hj : 3 ≤ j ∧ j < 10) (hf : ∀ q, q ∈ L → ¬ q.1 = i ∧ ¬ q.2 = j) : OK1 u0 r0 ((i, j) :: L) (wr1 f i) (wr1 g j) := by
  have k := h.2.wr (v := f.1) (by omega) (by omega) hj hf
  unfold wr1
  rw [upde, upde, ← h.1]
  by_cases a : f.1 = -6
  · rw [if_pos a, if_pos a]; exact ⟨rfl, k.nil, fun q => absurd rfl q⟩
  · rw [if_neg a, if_neg a]; exact ⟨rfl, k.nil, fun _ => k⟩
theorem bnd {A A' B B' : Int32 × Row} {L' : List (Nat × Nat)} (h : OK1 u0 r0 L A A') (k : RK u0 r0 L A.2 A'.2 → OK1 u0 r0 L' B B') : OK1 u0 r0 L' (if A.1 = 0 then (0, A.2) else B) (if A'.1 = 0 then (0, A'.2) else B') := by
  rw [← h.1]
  by_cases a : A.1 = 0
  · rw [if_pos a, if_pos a]; exact ⟨rfl, h.2.1, fun q => absurd rfl q⟩
  · rw [if_neg a, if_neg a]; exact k (h.2.2 a)
theorem bnd1 {A A' : Int32 × Row} (h : OK1 u0 r0 L A A') : OK1 u0 r0 L (if A.1 = 0 then (0, A.2) else (1, A.2)) (if A'.1 = 0 then (0, A'.2) else (1, A'.2)) := bnd h (fun k => ⟨rfl, k.nil, fun _ => k⟩)
theorem bnd2 {A A' P X Y : Int32 × Row} {L' : List (Nat × Nat)} (h : OK1 u0 r0 L A A') (k : RK u0 r0 L A.2 A'.2 → OK1 u0 r0 L' (if P.1 = 0 then (0, P.2) else X) Y) :
    OK1 u0 r0 L' (if (if A.1 = 0 then (0, A.2) else P).1 = 0 then (0, (if A.1 = 0 then (0, A.2) else P).2) else X) (if A'.1 = 0 then (0, A'.2) else Y) := by
  rw [← h.1]
  by_cases a : A.1 = 0
  · rw [if_pos a, if_pos a, if_pos rfl]; exact ⟨rfl, h.2.1, fun q => absurd rfl q⟩
  · rw [if_neg a, if_neg a]; exact k (h.2.2 a)
end RD
