/-! texts of the pad -/
/-- the pad holds the text T, as much of it as 80 characters hold -/
def Txt (u : Row) (T : List Int32) : Prop := u 3 = nI (min T.length 80) ∧ ∀ j, j < T.length → j < 80 → T[j]? = some (u (100 + j))
theorem Txt_app {u : Row} {T : List Int32} {x : Int32} (h : Txt u T) : Txt (sX4_append u x) (T ++ [x]) := by
  obtain ⟨h3, hc⟩ := h
  unfold sX4_append
  by_cases q : T.length < 80
  · have e3 : u 3 = nI T.length := by rw [h3, Nat.min_eq_left (by omega)]
    rw [if_neg (by rw [e3]; exact nI_ge (a := T.length) (b := 80) q (by omega)), e3, nn_nI (by omega)]
    have e : upd u (100 + T.length) x 3 = nI T.length := by rw [updn (by omega), e3]
    rw [e, nI_1]
    refine ⟨?_, fun j hj hj80 => ?_⟩
    · rw [upde, List.length_append, List.length_singleton, Nat.min_eq_left (by omega)]
    · rw [List.length_append, List.length_singleton] at hj
      rw [updn (by omega)]
      by_cases e2 : j = T.length
      · subst e2
        rw [upde, List.getElem?_append_right (Nat.le_refl _), Nat.sub_self]; rfl
      · rw [updn (by omega), List.getElem?_append_left (by omega)]
        exact hc j (by omega) hj80
  · have e3 : u 3 = nI 80 := by rw [h3, Nat.min_eq_right (by omega)]
    rw [if_pos (by rw [e3]; exact nI_le (a := 80) (b := 80) (Nat.le_refl _) (by omega))]
    refine ⟨?_, fun j hj hj80 => ?_⟩
    · rw [e3, List.length_append, List.length_singleton, Nat.min_eq_right (by omega)]
    · rw [List.getElem?_append_left (by omega)]
      exact hc j (by omega) hj80
theorem Txt_clear {u : Row} : Txt (sX4_clear u) [] := ⟨by unfold sX4_clear; rw [upde]; rfl, fun j hj => absurd hj (Nat.not_lt_zero _)⟩
/-- the digits of a number, from 10^k on -/
def dl (x : Nat) : Nat → List Int32
  | 0 => [nI (48 + x % 10)]
  | k + 1 => if 10 ^ (k + 1) ≤ x then nI (48 + x / 10 ^ (k + 1) % 10) :: dl x k else dl x k
def unit : Nat → Int32
  | 0 => 1
  | 1 => 10
  | 2 => 100
  | 3 => 1000
  | 4 => 10000
  | 5 => 100000
  | 6 => 1000000
  | 7 => 10000000
  | 8 => 100000000
  | _ => 1000000000
theorem unit_nI : ∀ k, k < 10 → unit k = nI (10 ^ k) := by
  intro k hk
  match k, hk with
  | 0, _ => rfl
  | 1, _ => rfl
  | 2, _ => rfl
  | 3, _ => rfl
  | 4, _ => rfl
  | 5, _ => rfl
  | 6, _ => rfl
  | 7, _ => rfl
  | 8, _ => rfl
  | 9, _ => rfl
  | k + 10, h => exact absurd h (by omega)
theorem unit_b : ∀ k, k < 10 → 0 < 10 ^ k ∧ 10 ^ k < 2 ^ 31 := by
  intro k hk
  match k, hk with
  | 0, _ => exact ⟨by decide, by decide⟩
  | 1, _ => exact ⟨by decide, by decide⟩
  | 2, _ => exact ⟨by decide, by decide⟩
  | 3, _ => exact ⟨by decide, by decide⟩
  | 4, _ => exact ⟨by decide, by decide⟩
  | 5, _ => exact ⟨by decide, by decide⟩
  | 6, _ => exact ⟨by decide, by decide⟩
  | 7, _ => exact ⟨by decide, by decide⟩
  | 8, _ => exact ⟨by decide, by decide⟩
  | 9, _ => exact ⟨by decide, by decide⟩
  | k + 10, h => exact absurd h (by omega)
theorem unit_s : ∀ k, k < 9 → unit (k + 1) / 10 = unit k := by
  intro k hk
  match k, hk with
  | 0, _ => decide
  | 1, _ => decide
  | 2, _ => decide
  | 3, _ => decide
  | 4, _ => decide
  | 5, _ => decide
  | 6, _ => decide
  | 7, _ => decide
  | 8, _ => decide
  | k + 9, h => exact absurd h (by omega)
theorem digit_eq {x k : Nat} (hx : x < 2 ^ 31) (hk : k < 10) : (48 + ((nI x / unit k) - (nI x / unit k) / 10 * 10) : Int32) = nI (48 + x / 10 ^ k % 10) := by
  obtain ⟨b0, b1⟩ := unit_b k hk
  rw [unit_nI k hk, pk_div hx b0 b1]
  have h2 := Nat.div_le_self x (10 ^ k)
  have e : nI (x / 10 ^ k) - nI (x / 10 ^ k) / 10 * 10 = nI (x / 10 ^ k % 10) := pk_rem (a := x / 10 ^ k) (d := 10) (by omega) (by omega) (by omega)
  rw [e]
  exact nI_add 48 _
theorem Txt_num {x : Nat} (hx : x < 2 ^ 31) : ∀ (k n : Nat) (u : Row) (T : List Int32), k < 10 → k + 1 < n → Txt u T → Txt (bX4_appendNumber_3 (nI x) n u (unit k)) (T ++ dl x k) := by
  intro k
  induction k with
  | zero =>
    intro n u T _ hn h
    obtain ⟨n, rfl⟩ : ∃ m, n = m + 2 := ⟨n - 2, by omega⟩
    rw [bX4_appendNumber_3, if_neg (show ¬ unit 0 < 1 by decide), digit_eq hx (by omega)]
    have e : unit 0 / 10 = 0 := by decide
    have A : Txt (bX4_appendNumber_3 (nI x) (n + 1) (sX4_append u (nI (48 + x / 10 ^ 0 % 10))) (unit 0 / 10)) (T ++ dl x 0) := by
      rw [e, bX4_appendNumber_3, if_pos (by decide), Nat.pow_zero, Nat.div_one]
      exact Txt_app h
    by_cases c : unit 0 ≤ nI x
    · rw [if_pos c]; exact A
    · rw [if_neg c, if_pos (show unit 0 = 1 from rfl)]; exact A
  | succ k ih =>
    intro n u T hk hn h
    obtain ⟨n, rfl⟩ : ∃ m, n = m + 1 := ⟨n - 1, by omega⟩
    obtain ⟨b0, b1⟩ := unit_b (k + 1) hk
    have u1 : ¬ unit (k + 1) < 1 := by
      rw [unit_nI _ hk, Int32.lt_iff_toInt_lt, nI_toInt b1, show (1 : Int32).toInt = 1 from by decide]; omega
    have un1 : ¬ unit (k + 1) = 1 := by
      rw [unit_nI _ hk]
      intro q
      have := (nI_eq (b := 1) b1 (by omega)).mp q
      rw [Nat.pow_succ] at this
      omega
    rw [bX4_appendNumber_3, if_neg u1, digit_eq hx hk, unit_s k (by omega), dl]
    by_cases c : 10 ^ (k + 1) ≤ x
    · rw [if_pos (by rw [unit_nI _ hk]; exact nI_le c hx), if_pos c, show T ++ nI (48 + x / 10 ^ (k + 1) % 10) :: dl x k = (T ++ [nI (48 + x / 10 ^ (k + 1) % 10)]) ++ dl x k by simp]
      exact ih n _ _ (by omega) (by omega) (Txt_app h)
    · rw [if_neg (by rw [unit_nI _ hk]; exact nI_ge (by omega) b1), if_neg un1, if_neg c]
      exact ih n _ _ (by omega) (by omega) h
theorem Txt_number {u : Row} {T : List Int32} {x : Nat} (hx : x < 2 ^ 31) (h : Txt u T) : Txt (sX4_appendNumber u (nI x)) (T ++ dl x 9) := Txt_num hx 9 11 u T (by omega) (by omega) h
/-- one digit for a number below 10 -/
theorem dl_small {x : Nat} (hx : x < 10) : ∀ k, dl x k = [nI (48 + x)] := by
  intro k
  induction k with
  | zero => rw [dl, Nat.mod_eq_of_lt hx]
  | succ k ih =>
    have : 10 ≤ 10 ^ (k + 1) := by
      rw [Nat.pow_succ]
      have : 0 < 10 ^ k := Nat.pow_pos (by decide)
      omega
    rw [dl, if_neg (by omega), ih]
def isD (v : Int32) : Prop := ∃ d, d < 10 ∧ v = nI (48 + d)
theorem dl_D {x : Nat} : ∀ (k : Nat) (v : Int32), v ∈ dl x k → isD v := by
  intro k
  induction k with
  | zero =>
    intro v h
    rw [dl, List.mem_singleton] at h
    exact ⟨x % 10, Nat.mod_lt _ (by omega), h⟩
  | succ k ih =>
    intro v h
    rw [dl] at h
    by_cases c : 10 ^ (k + 1) ≤ x
    · rw [if_pos c] at h
      rcases List.mem_cons.mp h with q | q
      · exact ⟨x / 10 ^ (k + 1) % 10, Nat.mod_lt _ (by omega), q⟩
      · exact ih v q
    · rw [if_neg c] at h
      exact ih v h
theorem dl_len {x : Nat} : ∀ (k : Nat), 1 ≤ (dl x k).length ∧ (dl x k).length ≤ k + 1 := by
  intro k
  induction k with
  | zero => exact ⟨Nat.le_refl 1, Nat.le_refl 1⟩
  | succ k ih =>
    rw [dl]
    by_cases c : 10 ^ (k + 1) ≤ x
    · rw [if_pos c, List.length_cons]; omega
    · rw [if_neg c]; omega
/-- what a row of digits tells -/
def stp (a : Nat) (v : Int32) : Nat := 10 * a + (nn v - 48)
def vl (m : Nat) (D : List Int32) : Nat := D.foldl stp m
theorem vl_nil {m : Nat} : vl m [] = m := rfl
theorem vl_cons {m : Nat} {v : Int32} {D : List Int32} : vl m (v :: D) = vl (stp m v) D := by
  unfold vl
  rw [List.foldl_cons]
theorem vl_dl {x : Nat} : ∀ (k : Nat), vl (x / 10 ^ (k + 1)) (dl x k) = x := by
  intro k
  induction k with
  | zero =>
    have e : x / 10 ^ (0 + 1) = x / 10 := by rw [Nat.zero_add, Nat.pow_one]
    rw [e, show dl x 0 = [nI (48 + x % 10)] from rfl, vl_cons, vl_nil]
    unfold stp
    rw [nn_nI (by omega)]
    omega
  | succ k ih =>
    have e : x / 10 ^ (k + 1 + 1) = x / 10 ^ (k + 1) / 10 := by rw [Nat.pow_succ 10 (k + 1), Nat.div_div_eq_div_mul]
    rw [dl, e]
    by_cases c : 10 ^ (k + 1) ≤ x
    · rw [if_pos c, vl_cons]
      unfold stp
      rw [nn_nI (by omega)]
      have : 10 * (x / 10 ^ (k + 1) / 10) + (48 + x / 10 ^ (k + 1) % 10 - 48) = x / 10 ^ (k + 1) := by omega
      rw [this]
      exact ih
    · rw [if_neg c]
      have z : x / 10 ^ (k + 1) = 0 := Nat.div_eq_of_lt (by omega)
      rw [z] at ih ⊢
      exact ih
theorem vl_9 {x : Nat} (hx : x < 2 ^ 31) : vl 0 (dl x 9) = x := by
  have := vl_dl (x := x) 9
  rw [Nat.div_eq_of_lt (show x < 10 ^ (9 + 1) by omega)] at this
  exact this
/-! how many marks ahead of a part a text has -/
def c59 : List Int32 → Nat
  | [] => 0
  | v :: T => if v = 59 then c59 T + 1 else c59 T
theorem c59_app : ∀ (T S : List Int32), c59 (T ++ S) = c59 T + c59 S := by
  intro T
  induction T with
  | nil => intro S; show c59 S = 0 + c59 S; omega
  | cons v T ih =>
    intro S
    show c59 (v :: (T ++ S)) = _
    rw [c59, c59, ih]
    by_cases c : v = 59
    · rw [if_pos c, if_pos c]; omega
    · rw [if_neg c, if_neg c]
theorem isD_59 {v : Int32} (h : isD v) : ¬ v = 59 := by
  obtain ⟨d, hd, e⟩ := h
  rw [e]
  intro q
  have := (nI_eq (b := 59) (show 48 + d < 2 ^ 31 by omega) (by omega)).mp q
  omega
theorem c59_D : ∀ (D : List Int32), (∀ v, v ∈ D → isD v) → c59 D = 0 := by
  intro D
  induction D with
  | nil => intro _; rfl
  | cons v D ih =>
    intro h
    rw [c59, if_neg (isD_59 (h v List.mem_cons_self)), ih (fun x hx => h x (List.mem_cons_of_mem _ hx))]
theorem c59_take : ∀ (T : List Int32) (n : Nat), c59 (T.take n) ≤ c59 T := by
  intro T
  induction T with
  | nil => intro n; rw [List.take_nil]; exact Nat.le_refl _
  | cons v T ih =>
    intro n
    cases n with
    | zero => rw [List.take_zero]; exact Nat.zero_le _
    | succ n =>
      rw [List.take_succ_cons, c59, c59]
      have := ih n
      split <;> omega
/-! the note of a cart -/
def pt (w : Row) (c i : Nat) : List Int32 := [59] ++ dl i 9 ++ [58] ++ dl (nn (w (168 + 2 * (12 * c + i)))) 9 ++ [45] ++ dl (nn (w (168 + 2 * (12 * c + i) + 1))) 9
def tail (w : Row) (c : Nat) : Nat → Nat → List Int32
  | 0, _ => []
  | m + 1, p => (if (w (20 + 7 * p + 2)).toInt ≤ (sX1_numbersLeft w c p).toInt then [] else pt w c p) ++ tail w c m (p + 1)
theorem bridgeOf_out {w : Row} {i : Nat} (hcn : Cn w) (hi : nn (w 5) ≤ i) (hb : i < 2 ^ 31) : sX5_bridgeOf w (nI i) = none := by
  unfold sX5_bridgeOf
  rw [if_pos (Decidable.byContradiction fun q => by
    have := isB_iff.mp q
    rw [nI_toInt hb, ← nn_toInt hcn.2.1.1] at this
    omega)]
theorem tail_loop {w : Row} {c : Nat} (hc : c < 8) (h : WI w) : ∀ (n p : Nat) (u : Row) (T : List Int32), p ≤ 12 → 12 - p < n → Txt u T → Txt (bX6_appendNote_62 w c n u p) (T ++ tail w c (nn (w 5) - p) p) := by
  have h5 := h.a.n5
  intro n
  induction n with
  | zero => intro p _ _ _ q; omega
  | succ n ih =>
    intro p u T hp hn hT
    rw [bX6_appendNote_62]
    by_cases d : 12 ≤ nI p
    · have : 12 ≤ p := ge_lit (n := 12) d (by omega) (by omega)
      rw [if_pos d, show nn (w 5) - p = 0 by omega, tail, List.append_nil]; exact hT
    · rw [if_neg d]
      have hp2 := lit_lt (n := 12) d (by omega) (by omega)
      by_cases hi : p < nn (w 5)
      · rw [bridgeOf_in h.cn hi, oe_some rfl]
        obtain ⟨m, hm⟩ : ∃ m, nn (w 5) - p = m + 1 := ⟨nn (w 5) - p - 1, by omega⟩
        rw [hm, tail]
        by_cases q : w (20 + 7 * p + 2) ≤ sX1_numbersLeft w c p
        · rw [if_pos q, if_pos (Int32.le_iff_toInt_le.mp q), List.nil_append]
          have := ih (p + 1) u T (by omega) (by omega) hT
          rw [show nn (w 5) - (p + 1) = m by omega] at this
          exact this
        · rw [if_neg q, if_neg (fun z => q (Int32.le_iff_toInt_le.mpr z))]
          obtain ⟨r1, r2, r3, r4⟩ := h.r c p hc (by omega) hi
          have hs := (h.sz hi).1.2
          have el : sX1_lowest w c p = nI (nn (w (168 + 2 * (12 * c + p)))) := nI_nn (v := w (168 + 2 * (12 * c + p))) r1
          have eh : sX1_highest w c p = nI (nn (w (168 + 2 * (12 * c + p) + 1))) := nI_nn (v := w (168 + 2 * (12 * c + p) + 1)) (by omega)
          rw [el, eh, ← List.append_assoc]
          have A := Txt_number (x := nn (w (168 + 2 * (12 * c + p) + 1))) nn_b (Txt_app (x := 45) (Txt_number (x := nn (w (168 + 2 * (12 * c + p)))) nn_b (Txt_app (x := 58) (Txt_number (x := p) (by omega) (Txt_app (x := 59) hT)))))
          have B := ih (p + 1) _ _ (by omega) (by omega) A
          rw [show nn (w 5) - (p + 1) = m by omega] at B
          have e : T ++ pt w c p = T ++ [59] ++ dl p 9 ++ [58] ++ dl (nn (w (168 + 2 * (12 * c + p)))) 9 ++ [45] ++ dl (nn (w (168 + 2 * (12 * c + p) + 1))) 9 := by
            unfold pt
            simp only [List.append_assoc]
          rw [e]
          exact B
      · rw [bridgeOf_out h.cn (by omega) (by omega), oe_none rfl]
        have := ih (p + 1) u T (by omega) (by omega) hT
        rw [show nn (w 5) - (p + 1) = nn (w 5) - p by omega] at this
        rw [show nn (w 5) - p = 0 by omega, tail] at this ⊢
        exact this
def note (w : Row) (c : Nat) : List Int32 := [99, nI (48 + c), 64, nI (48 + nn (w (104 + 8 * c))), 42] ++ dl (nn (w (104 + 8 * c + 1))) 9 ++ tail w c (nn (w 5)) 0
theorem note_ok {u w : Row} {c : Nat} (hc : c < nn (w 6)) (h : WI w) : Txt (sX6_appendNote (sX4_clear u) w c) (note w c) := by
  have h6 := h.a.n6
  have ht := h.t c (by omega)
  have htl := ht.le
  have hm := h.m.1 c (by omega)
  have et : w (104 + 8 * c) = nI (nn (w (104 + 8 * c))) := ht.eq
  have ec : w (104 + 8 * c + 1) = nI (nn (w (104 + 8 * c + 1))) := nI_nn hm
  unfold sX6_appendNote
  have A := Txt_number (x := nn (w (104 + 8 * c + 1))) nn_b (Txt_app (x := 42) (Txt_number (x := nn (w (104 + 8 * c))) nn_b (Txt_app (x := 64) (Txt_number (x := c) (by omega) (Txt_app (x := 99) (Txt_clear (u := u)))))))
  rw [← et, ← ec, dl_small (show nn (w (104 + 8 * c)) < 10 by omega), dl_small (show c < 10 by omega)] at A
  exact tail_loop (by omega) h 13 0 _ _ (by omega) (by omega) A
