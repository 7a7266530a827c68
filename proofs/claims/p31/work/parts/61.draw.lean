/-! the class's release, a riddle drawn -/
theorem re_loop {c i : Nat} (hc : c < 8) (hi : i < 12) : ∀ (n m : Nat) (w : Row) (z p : Nat), Cn w → (∀ k, k < 8 → sm (w (12 + k)) 7) → nn (w 10) = p + m → z ≤ p → m < n →
    qs (bX5_release_5 c i n w z p) = ql w z 0 ++ (ql w m p).filter (fun x => decide (x ≠ c)) ∧ (∀ k, k < 8 → sm (bX5_release_5 c i n w z p (12 + k)) 7) ∧
    ∀ j, ¬ j = 10 → ¬ (12 ≤ j ∧ j < 20) → bX5_release_5 c i n w z p j = upd (upd (upd (upd w (104 + 8 * c + 2) (-6)) (104 + 8 * c + 3) (-6)) (104 + 8 * c + 4) 0) (360 + i) (w (360 + i) - 1) j := by
  intro n
  induction n with
  | zero => intro m w z p _ _ _ _ h; omega
  | succ n ih =>
    intro m w z p hcn hs hm hz hn
    have h8 := hcn.1.le
    rw [bX5_release_5]
    have hcl := cnt_le (c := w 10) (p := p) hcn.1 (by omega)
    cases m with
    | zero =>
      rw [if_pos (hcl.mpr (by omega))]
      have e : ∀ j, (104 ≤ j → False) → upd (upd (upd (upd (upd w 10 (nI z)) (104 + 8 * c + 2) (-6)) (104 + 8 * c + 3) (-6)) (104 + 8 * c + 4) 0) (360 + i) ((upd (upd (upd (upd w 10 (nI z)) (104 + 8 * c + 2) (-6)) (104 + 8 * c + 3) (-6)) (104 + 8 * c + 4) 0) (360 + i) - 1) j = upd w 10 (nI z) j := by
        intro j hj
        rw [updn (fun q => hj (by omega)), updn (fun q => hj (by omega)), updn (fun q => hj (by omega)), updn (fun q => hj (by omega))]
      refine ⟨?_, fun k hk => ?_, fun j h1 h2 => ?_⟩
      · unfold qs
        rw [e 10 (by omega), upde, nn_nI (by omega)]
        show _ = ql w z 0 ++ []
        rw [List.append_nil]
        exact ql_congr _ _ (fun k h1 h2 => (e _ (by omega)).trans (updn (by omega)))
      · rw [e _ (by omega), updn (by omega)]; exact hs k hk
      · have e2 : (upd (upd (upd (upd w 10 (nI z)) (104 + 8 * c + 2) (-6)) (104 + 8 * c + 3) (-6)) (104 + 8 * c + 4) 0) (360 + i) = w (360 + i) := by rw [updn (by omega), updn (by omega), updn (by omega), updn (by omega)]
        rw [e2]
        unfold upd
        by_cases q1 : j = 360 + i
        · rw [if_pos q1, if_pos q1]
        rw [if_neg q1, if_neg q1]
        by_cases q2 : j = 104 + 8 * c + 4
        · rw [if_pos q2, if_pos q2]
        rw [if_neg q2, if_neg q2]
        by_cases q3 : j = 104 + 8 * c + 3
        · rw [if_pos q3, if_pos q3]
        rw [if_neg q3, if_neg q3]
        by_cases q4 : j = 104 + 8 * c + 2
        · rw [if_pos q4, if_pos q4]
        rw [if_neg q4, if_neg q4, if_neg h1]
    | succ m =>
      rw [if_neg (fun q => by have := hcl.mp q; omega)]
      have hv := hs p (by omega)
      have e10 : upd w (12 + z) (w (12 + p)) 10 = w 10 := updn (by omega)
      have e2 : ql (upd w (12 + z) (w (12 + p))) m (p + 1) = ql w m (p + 1) := ql_congr _ _ (fun k h1 h2 => updn (by omega))
      have e1 : ql (upd w (12 + z) (w (12 + p))) z 0 = ql w z 0 := ql_congr _ _ (fun k h1 h2 => updn (by omega))
      have e3 : ql (upd w (12 + z) (w (12 + p))) (z + 1) 0 = ql w z 0 ++ [nn (w (12 + p))] := by rw [ql_snoc, e1, show 12 + (0 + z) = 12 + z by omega, upde]
      rw [ql]
      by_cases hd : w (12 + p) = nI c
      · rw [if_pos hd]
        have hq := (en hv (by omega) (by omega)).mp hd
        obtain ⟨i1, i2, i3⟩ := ih m w z (p + 1) hcn hs (by omega) (by omega) (by omega)
        exact ⟨by rw [i1, List.filter_cons_of_neg (by rw [hq]; simp)], i2, i3⟩
      · rw [if_neg hd]
        have hq : ¬ nn (w (12 + p)) = c := fun q => hd ((en hv (by omega) (by omega)).mpr q)
        obtain ⟨i1, i2, i3⟩ := ih m (upd w (12 + z) (w (12 + p))) (z + 1) (p + 1) (Cn_upd (by omega) (by omega) (by omega) hcn) (fun k hk => by
          by_cases e : k = z
          · subst e; rw [upde]; exact hv
          · rw [updn (by omega)]; exact hs k hk) (by rw [e10]; omega) (by omega) (by omega)
        refine ⟨by rw [i1, e3, e2, List.filter_cons_of_pos (by simpa using hq), List.append_assoc]; rfl, i2, fun j h1 h2 => ?_⟩
        rw [i3 j h1 h2, updn (show ¬ 360 + i = 12 + z by omega)]
        unfold upd
        have q5 : ¬ j = 12 + z := by omega
        rw [if_neg q5]
def sd (x : Int32) : Int32 := ((75 * x) + 74) - ((75 * x) + 74) / 65537 * 65537
def rd (x z : Int32) : Int32 := (x / 2) - (x / 2) / z * z
def rng (w : Row) (i p : Nat) : Row := fun j => if 168 + 24 * p ≤ j ∧ j < 360 ∧ ((j - 168) / 2) % 12 = i then (if (j - 168) % 2 = 0 then 0 else w (20 + 7 * i + 2) - 1) else w j
def drw (w : Row) (i : Nat) : Row := rng (upd (upd w 7 (sd (w 7))) (20 + 7 * i + 3) (rd (sd (w 7)) (w (20 + 7 * i + 2)))) i 0
theorem rng_8 {w : Row} {i p : Nat} (hp : 8 ≤ p) : rng w i p = w := by
  funext j
  unfold rng
  rw [if_neg (by omega)]
theorem rng_s {w : Row} {i p : Nat} (hp : p < 8) (hi : i < 12) : rng (upd (upd w (168 + 2 * (12 * p + i)) 0) (168 + 2 * (12 * p + i) + 1) (w (20 + 7 * i + 2) - 1)) i (p + 1) = rng w i p := by
  funext j
  unfold rng
  have es : upd (upd w (168 + 2 * (12 * p + i)) 0) (168 + 2 * (12 * p + i) + 1) (w (20 + 7 * i + 2) - 1) (20 + 7 * i + 2) = w (20 + 7 * i + 2) := by rw [updn (by omega), updn (by omega)]
  rw [es]
  by_cases a : j = 168 + 2 * (12 * p + i) + 1
  · rw [if_neg (by omega), if_pos (by omega), if_neg (by omega), a, upde]
  by_cases b : j = 168 + 2 * (12 * p + i)
  · rw [if_neg (by omega), if_pos (by omega), if_pos (by omega), b, updn (by omega), upde]
  rw [updn a, updn b]
  by_cases c : 168 + 24 * p ≤ j ∧ j < 360 ∧ ((j - 168) / 2) % 12 = i
  · rw [if_pos c, if_pos (by omega)]
  · rw [if_neg c, if_neg (by omega)]
theorem dr5_loop {i : Nat} (hi : i < 12) : ∀ (n : Nat) (w : Row) (p : Nat), p ≤ 8 → 8 - p < n → bX5_drawRiddle_29 i n w p = rng w i p := by
  intro n
  induction n with
  | zero => intro w p _ h; omega
  | succ n ih =>
    intro w p hp hn
    rw [bX5_drawRiddle_29]
    by_cases h1 : 8 ≤ nI p
    · rw [if_pos h1, rng_8]
      rcases Nat.lt_or_ge p 8 with q | q
      · exact absurd h1 (nI_ge (b := 8) q (by decide))
      · exact q
    · rw [if_neg h1]
      have hp2 := lit_lt (n := 8) h1 (by omega) (by omega)
      have e : (upd w (168 + 2 * (12 * p + i)) 0) (20 + 7 * i + 2) = w (20 + 7 * i + 2) := updn (by omega)
      rw [ih _ _ (by omega) (by omega)]
      unfold sX1_forget
      rw [e, rng_s hp2 hi]
theorem dr5 {w : Row} {i : Nat} (hi : i < 12) (hz : ¬ w (20 + 7 * i + 2) ≤ 0) : sX5_drawRiddle w i = drw w i := by
  unfold sX5_drawRiddle drw
  rw [dr5_loop hi 9 _ 0 (by omega) (by omega)]
  unfold sX0_takeRiddle
  rw [upde, updn (show ¬ 20 + 7 * i + 2 = 7 by omega), if_neg hz]
  rfl
theorem sd_sm {x : Int32} (h : sm x 65536) : sm (sd x) 65536 := by
  unfold sd
  have e : (75 * x) + 74 = nI (75 * nn x + 74) := by
    have h1 : 75 * x = nI (75 * nn x) := by
      have := nI_mul 75 (nn x)
      rw [← h.eq] at this
      exact this
    rw [h1]; exact nI_add _ _
  have hl := h.le
  rw [e, show (65537 : Int32) = nI 65537 from rfl, pk_rem (by omega) (by omega) (by omega)]
  exact sm_nI (by omega) (by omega)
theorem rd_sm {x z : Int32} {m : Nat} (hx : sm x 65536) (hz : sm z m) (h2 : 2 ≤ z.toInt) (hm : m < 2 ^ 31) : sm (rd x z) (nn z - 1) := by
  unfold rd
  have h1 := hz.le
  have h3 := nn_toInt hz.1
  have h4 := hx.le
  rw [hx.eq, hz.eq, show (2 : Int32) = nI 2 from rfl, pk_div (by omega) (by omega) (by omega), pk_rem (by omega) (by omega) (by omega), nn_nI (by omega)]
  have := Nat.mod_lt (nn x / 2) (show 0 < nn z by omega)
  exact sm_nI (by omega) (by omega)
theorem drw_o {w : Row} {i j : Nat} (hi : i < 12) (h7 : ¬ j = 7) (h3 : ¬ j = 20 + 7 * i + 3) (hr : ¬ (168 ≤ j ∧ j < 360 ∧ ((j - 168) / 2) % 12 = i)) : drw w i j = w j := by
  unfold drw rng
  rw [if_neg (by omega), updn h3, updn h7]
theorem drw_r {w : Row} {c i i' : Nat} (hi : i < 12) (hi' : i' < 12) (hc : c < 8) : drw w i (168 + 2 * (12 * c + i')) = (if i' = i then 0 else w (168 + 2 * (12 * c + i'))) ∧ drw w i (168 + 2 * (12 * c + i') + 1) = (if i' = i then w (20 + 7 * i + 2) - 1 else w (168 + 2 * (12 * c + i') + 1)) := by
  by_cases e : i' = i
  · subst e
    rw [if_pos rfl, if_pos rfl]
    unfold drw rng
    constructor
    · rw [if_pos (by omega), if_pos (by omega)]
    · rw [if_pos (by omega), if_neg (by omega), updn (by omega), updn (by omega)]
  · rw [if_neg e, if_neg e]
    exact ⟨drw_o hi (by omega) (by omega) (by omega), drw_o hi (by omega) (by omega) (by omega)⟩
theorem drw_7 {w : Row} {i : Nat} (hi : i < 12) : drw w i 7 = sd (w 7) := by
  unfold drw rng
  rw [if_neg (by omega), updn (by omega), upde]
theorem drw_3 {w : Row} {i : Nat} (hi : i < 12) : drw w i (20 + 7 * i + 3) = rd (sd (w 7)) (w (20 + 7 * i + 2)) := by
  unfold drw rng
  rw [if_neg (by omega), upde]
theorem sm_w {v : Int32} {n m : Nat} (h : sm v n) (hn : n ≤ m) : sm v m := ⟨h.1, by have := h.2; omega⟩
theorem qs_congr {w w' : Row} (h10 : w' 10 = w 10) (hq : ∀ k, k < 8 → w' (12 + k) = w (12 + k)) (hcn : Cn w) : qs w' = qs w := by
  unfold qs
  rw [h10]
  have := hcn.1.le
  exact ql_congr _ _ (fun k h1 h2 => hq k (by omega))
