/-! a riddle is drawn: what it comes to, on both sides -/
def sd (x : Int32) : Int32 := ((75 * x) + 74) - ((75 * x) + 74) / 65537 * 65537
def rd (x z : Int32) : Int32 := (x / 2) - (x / 2) / z * z
def rng (w : Row) (i p : Nat) : Row := fun j => if 168 + 24 * p ≤ j ∧ j < 360 ∧ ((j - 168) / 2) % 12 = i then (if (j - 168) % 2 = 0 then 0 else w (20 + 7 * i + 2) - 1) else w j
def drw (w : Row) (i : Nat) : Row := rng (upd (upd w 7 (sd (w 7))) (20 + 7 * i + 3) (rd (sd (w 7)) (w (20 + 7 * i + 2)))) i 0
theorem rng_8 {w : Row} {i p : Nat} (hp : 8 ≤ p) : rng w i p = w := by
  funext j
  unfold rng
  rw [if_neg (by omega)]
theorem rng_s {w : Row} {i p : Nat} (hp : p < 8) (hi : i < 12) : rng (upd (upd w (168 + 2 * (12 * p + i)) 0) (168 + 2 * (12 * p + i) + 1) (w (20 + 7 * i + 2) - 1)) i (p + 1) = rng w i p := by
  funext j
  unfold rng
  have es : upd (upd w (168 + 2 * (12 * p + i)) 0) (168 + 2 * (12 * p + i) + 1) (w (20 + 7 * i + 2) - 1) (20 + 7 * i + 2) = w (20 + 7 * i + 2) := by rw [updn (by omega), updn (by omega)]
  rw [es]
  by_cases a : j = 168 + 2 * (12 * p + i) + 1
  · rw [if_neg (by omega), if_pos (by omega), if_neg (by omega), a, upde]
  by_cases b : j = 168 + 2 * (12 * p + i)
  · rw [if_neg (by omega), if_pos (by omega), if_pos (by omega), b, updn (by omega), upde]
  rw [updn a, updn b]
  by_cases c : 168 + 24 * p ≤ j ∧ j < 360 ∧ ((j - 168) / 2) % 12 = i
  · rw [if_pos c, if_pos (by omega)]
  · rw [if_neg c, if_neg (by omega)]
theorem dr7_loop {i : Nat} (hi : i < 12) : ∀ (n : Nat) (w : Row) (p : Nat), p ≤ 8 → 8 - p < n → bX7_draws_64 i n w p = rng w i p := by
  intro n
  induction n with
  | zero => intro w p _ h; omega
  | succ n ih =>
    intro w p hp hn
    rw [bX7_draws_64]
    by_cases h1 : 8 ≤ nI p
    · rw [if_pos h1, rng_8]
      rcases Nat.lt_or_ge p 8 with q | q
      · exact absurd h1 (nI_ge (b := 8) q (by decide))
      · exact q
    · rw [if_neg h1]
      have hp2 := lit_lt (n := 8) h1 (by omega) (by omega)
      have e : (upd w (168 + 2 * (12 * p + i)) 0) (20 + 7 * i + 2) = w (20 + 7 * i + 2) := updn (by omega)
      rw [ih _ _ (by omega) (by omega), e, rng_s hp2 hi]
theorem dr5_loop {i : Nat} (hi : i < 12) : ∀ (n : Nat) (w : Row) (p : Nat), p ≤ 8 → 8 - p < n → bX5_drawRiddle_29 i n w p = rng w i p := by
  intro n
  induction n with
  | zero => intro w p _ h; omega
  | succ n ih =>
    intro w p hp hn
    rw [bX5_drawRiddle_29]
    by_cases h1 : 8 ≤ nI p
    · rw [if_pos h1, rng_8]
      rcases Nat.lt_or_ge p 8 with q | q
      · exact absurd h1 (nI_ge (b := 8) q (by decide))
      · exact q
    · rw [if_neg h1]
      have hp2 := lit_lt (n := 8) h1 (by omega) (by omega)
      have e : (upd w (168 + 2 * (12 * p + i)) 0) (20 + 7 * i + 2) = w (20 + 7 * i + 2) := updn (by omega)
      rw [ih _ _ (by omega) (by omega)]
      unfold sX1_forget
      rw [e, rng_s hp2 hi]
theorem dr7 {w : Row} {i : Nat} (hi : i < 12) : sX7_draws w i = drw w i := by
  unfold sX7_draws drw
  rw [dr7_loop hi 9 _ 0 (by omega) (by omega), upde, updn (show ¬ 20 + 7 * i + 2 = 7 by omega)]
  rfl
theorem dr5 {w : Row} {i : Nat} (hi : i < 12) (hz : ¬ w (20 + 7 * i + 2) ≤ 0) : sX5_drawRiddle w i = drw w i := by
  unfold sX5_drawRiddle drw
  rw [dr5_loop hi 9 _ 0 (by omega) (by omega)]
  unfold sX0_takeRiddle
  rw [upde, updn (show ¬ 20 + 7 * i + 2 = 7 by omega), if_neg hz]
  rfl
theorem sd_sm {x : Int32} (h : sm x 65536) : sm (sd x) 65536 := by
  unfold sd
  have e : (75 * x) + 74 = nI (75 * nn x + 74) := by
    have h1 : 75 * x = nI (75 * nn x) := by
      have := nI_mul 75 (nn x)
      rw [← h.eq] at this
      exact this
    rw [h1]; exact nI_add _ _
  have hl := h.le
  rw [e, show (65537 : Int32) = nI 65537 from rfl, pk_rem (by omega) (by omega) (by omega)]
  exact sm_nI (by omega) (by omega)
theorem rd_sm {x z : Int32} {m : Nat} (hx : sm x 65536) (hz : sm z m) (h2 : 2 ≤ z.toInt) (hm : m < 2 ^ 31) : sm (rd x z) (nn z - 1) := by
  unfold rd
  have h1 := hz.le
  have h3 := nn_toInt hz.1
  have h4 := hx.le
  rw [hx.eq, hz.eq, show (2 : Int32) = nI 2 from rfl, pk_div (by omega) (by omega) (by omega), pk_rem (by omega) (by omega) (by omega), nn_nI (by omega)]
  have := Nat.mod_lt (nn x / 2) (show 0 < nn z by omega)
  exact sm_nI (by omega) (by omega)
theorem drw_o {w : Row} {i j : Nat} (hi : i < 12) (h7 : ¬ j = 7) (h3 : ¬ j = 20 + 7 * i + 3) (hr : ¬ (168 ≤ j ∧ j < 360 ∧ ((j - 168) / 2) % 12 = i)) : drw w i j = w j := by
  unfold drw rng
  rw [if_neg (by omega), updn h3, updn h7]
theorem drw_r {w : Row} {c i i' : Nat} (hi : i < 12) (hi' : i' < 12) (hc : c < 8) : drw w i (168 + 2 * (12 * c + i')) = (if i' = i then 0 else w (168 + 2 * (12 * c + i'))) ∧ drw w i (168 + 2 * (12 * c + i') + 1) = (if i' = i then w (20 + 7 * i + 2) - 1 else w (168 + 2 * (12 * c + i') + 1)) := by
  by_cases e : i' = i
  · subst e
    rw [if_pos rfl, if_pos rfl]
    unfold drw rng
    constructor
    · rw [if_pos (by omega), if_pos (by omega)]
    · rw [if_pos (by omega), if_neg (by omega), updn (by omega), updn (by omega)]
  · rw [if_neg e, if_neg e]
    exact ⟨drw_o hi (by omega) (by omega) (by omega), drw_o hi (by omega) (by omega) (by omega)⟩
theorem drw_7 {w : Row} {i : Nat} (hi : i < 12) : drw w i 7 = sd (w 7) := by
  unfold drw rng
  rw [if_neg (by omega), updn (by omega), upde]
theorem drw_3 {w : Row} {i : Nat} (hi : i < 12) : drw w i (20 + 7 * i + 3) = rd (sd (w 7)) (w (20 + 7 * i + 2)) := by
  unfold drw rng
  rw [if_neg (by omega), upde]
theorem sm_w {v : Int32} {n m : Nat} (h : sm v n) (hn : n ≤ m) : sm v m := ⟨h.1, by have := h.2; omega⟩
theorem qs_congr {w w' : Row} (h10 : w' 10 = w 10) (hq : ∀ k, k < 8 → w' (12 + k) = w (12 + k)) (hcn : Cn w) : qs w' = qs w := by
  unfold qs
  rw [h10]
  have := hcn.1.le
  exact ql_congr _ _ (fun k h1 h2 => hq k (by omega))
/-- as IZ, but nothing of the ranges about the bridge i -/
def IZ' (i0 : Nat) (w : Row) : Prop := (∀ i, i < 12 → nn (w 5) ≤ i → w (20 + 7 * i + 4) = 0 ∧ w (20 + 7 * i + 5) = 0 ∧ w (20 + 7 * i + 6) = 0) ∧
  (∀ c, c < 8 → nn (w 6) ≤ c → w (104 + 8 * c + 1) = 0 ∧ w (104 + 8 * c + 4) = 0 ∧ w (104 + 8 * c + 5) = 0 ∧ w (104 + 8 * c + 6) = 0 ∧ w (104 + 8 * c + 7) = 0) ∧
  (∀ c i, c < 8 → i < 12 → i < nn (w 5) → nn (w 6) ≤ c → ¬ i = i0 → w (168 + 2 * (12 * c + i)) = 0 ∧ w (168 + 2 * (12 * c + i) + 1) = w (20 + 7 * i + 2) - 1) ∧
  ∀ c i, c < 8 → i < 12 → nn (w 5) ≤ i → w (168 + 2 * (12 * c + i)) = 0 ∧ w (168 + 2 * (12 * c + i) + 1) = 0
def IR' (i0 : Nat) (w : Row) : Prop := ∀ c i, c < 8 → i < 12 → i < nn (w 5) → ¬ i = i0 → 0 ≤ (w (168 + 2 * (12 * c + i))).toInt ∧ (w (168 + 2 * (12 * c + i))).toInt ≤ (w (168 + 2 * (12 * c + i) + 1)).toInt ∧ (w (168 + 2 * (12 * c + i) + 1)).toInt < (w (20 + 7 * i + 2)).toInt
def Inv' (i : Nat) (w : Row) : Prop := Rn w ∧ IQ w ∧ IZ' i w ∧ IW w ∧ IR' i w ∧ IG w ∧ IM w ∧ IS w ∧ IT w
theorem Inv.to' {w : Row} {i : Nat} (h : Inv w) : Inv' i w := ⟨h.1, h.2.1, ⟨h.2.2.1.1, h.2.2.1.2.1, fun c i' a b d e _ => h.2.2.1.2.2.1 c i' a b d e, h.2.2.1.2.2.2⟩, h.2.2.2.1, fun c i' a b d _ => h.2.2.2.2.1 c i' a b d, h.2.2.2.2.2⟩
/-- the invariants when a riddle is drawn at a bridge with a size -/
theorem Inv_drw {w : Row} {i : Nat} (hi : i < nn (w 5)) (h : Inv' i w) : Inv (drw w i) := by
  obtain ⟨hR, hQ, hZ, hW, hI, hG, hM, hS, hT⟩ := h
  have h5 := hR.1.2.1.le
  have h6 := hR.1.2.2.le
  have hi12 : i < 12 := by omega
  have E : ∀ j, ¬ j = 7 → ¬ j = 20 + 7 * i + 3 → ¬ 168 ≤ j → drw w i j = w j := fun j h1 h2 h3 => drw_o hi12 h1 h2 (by omega)
  have e5 := E 5 (by omega) (by omega) (by omega)
  have e6 := E 6 (by omega) (by omega) (by omega)
  have hsz := hR.2.2.2 i hi12 hi
  have hsm := (hR.2.2.1 i hi12).2.2
  have eQ := qs_congr (w := w) (E 10 (by omega) (by omega) (by omega)) (fun k hk => E _ (by omega) (by omega) (by omega)) hR.1
  refine ⟨by rw [← dr7 hi12]; exact Rn_draws hi12 hR, ?_, ?_, ?_, ?_, ?_, ?_, ?_, ?_⟩
  · unfold IQ
    rw [eQ, e5, e6]
    refine ⟨hQ.1, fun x hx => ?_, fun x hx => ?_⟩
    · have := hQ.2.1 x hx
      rw [E _ (by omega) (by omega) (by omega)]; exact this
    · rw [E _ (by omega) (by omega) (by omega)]; exact hQ.2.2 x hx
  · refine ⟨fun i' hi' hn => ?_, fun c' hc' hn => ?_, fun c' i' hc' hi' hn hm => ?_, fun c' i' hc' hi' hn => ?_⟩
    · rw [e5] at hn
      rw [E _ (by omega) (by omega) (by omega), E _ (by omega) (by omega) (by omega), E _ (by omega) (by omega) (by omega)]; exact hZ.1 i' hi' hn
    · rw [e6] at hn
      rw [E _ (by omega) (by omega) (by omega), E _ (by omega) (by omega) (by omega), E _ (by omega) (by omega) (by omega), E _ (by omega) (by omega) (by omega), E _ (by omega) (by omega) (by omega)]; exact hZ.2.1 c' hc' hn
    · rw [e5] at hn
      rw [e6] at hm
      rw [(drw_r hi12 hi' hc').1, (drw_r hi12 hi' hc').2, E _ (by omega) (by omega) (by omega)]
      by_cases e : i' = i
      · subst e; rw [if_pos rfl, if_pos rfl]; exact ⟨rfl, rfl⟩
      · rw [if_neg e, if_neg e]; exact hZ.2.2.1 c' i' hc' hi' hn hm e
    · rw [e5] at hn
      rw [(drw_r hi12 hi' hc').1, (drw_r hi12 hi' hc').2, if_neg (by omega), if_neg (by omega)]; exact hZ.2.2.2 c' i' hc' hi' hn
  · intro c' hc' hq
    rw [E _ (by omega) (by omega) (by omega)] at hq ⊢; exact hW c' hc' hq
  · intro c' i' hc' hi' hn
    rw [e5] at hn
    rw [(drw_r hi12 hi' hc').1, (drw_r hi12 hi' hc').2, E _ (by omega) (by omega) (by omega)]
    by_cases e : i' = i
    · subst e
      rw [if_pos rfl, if_pos rfl, pm1 hsm, show (0 : Int32).toInt = 0 from by decide]
      omega
    · rw [if_neg e, if_neg e]; exact hI c' i' hc' hi' hn e
  · refine ⟨by rw [drw_7 hi12]; exact sd_sm hG.1, fun i' hi' => ?_, fun c' hc' => ?_⟩
    · by_cases e : i' = i
      · subst e
        rw [drw_3 hi12]
        exact sm_w (rd_sm (sd_sm hG.1) hsm hsz (by omega)) (by have := hsm.le; omega)
      · rw [E _ (by omega) (by omega) (by omega)]; exact hG.2.1 i' hi'
    · rw [E _ (by omega) (by omega) (by omega), E _ (by omega) (by omega) (by omega)]; exact hG.2.2 c' hc'
  · have m1 : ∀ k, k < 8 → co (drw w i) k = co w k := fun k hk => congrArg Int32.toInt (E _ (by omega) (by omega) (by omega))
    have m2 : ∀ k, k < 12 → tl (drw w i) k = tl w k := fun k hk => congrArg Int32.toInt (E _ (by omega) (by omega) (by omega))
    refine ⟨fun k hk => by rw [m1 k hk]; exact hM.1 k hk, fun k hk => by rw [m2 k hk]; exact hM.2.1 k hk, ?_, ?_⟩
    · rw [sumN_congr 8 m1, sumN_congr 12 m2, E 8 (by omega) (by omega) (by omega)]; exact hM.2.2.1
    · rw [e6, E 8 (by omega) (by omega) (by omega)]; exact hM.2.2.2
  · unfold IS
    rw [E 0 (by omega) (by omega) (by omega), E 1 (by omega) (by omega) (by omega), E 2 (by omega) (by omega) (by omega), E 3 (by omega) (by omega) (by omega)]; exact hS
  · refine ⟨fun c' hc' => ?_, IX_congr (fun k hk => E _ (by omega) (by omega) (by omega)) (fun k hk => E _ (by omega) (by omega) (by omega)) hT.2⟩
    rw [E _ (by omega) (by omega) (by omega)]; exact hT.1 c' hc'
theorem Inv_draws {w : Row} {i : Nat} (hi : i < nn (w 5)) (h : Inv w) : Inv (sX7_draws w i) := by
  have h5 := h.1.1.2.1.le
  rw [dr7 (by omega)]; exact Inv_drw hi h.to'
