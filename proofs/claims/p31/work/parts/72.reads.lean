/-! what the calls tell, in terms of the state -/
section RD
variable {g : GS} {c i : Nat}
theorem part1 {w : Row} : sX1_part w c 0 = w (104 + 8 * c) ∧ sX1_part w c 1 = w (104 + 8 * c + 1) ∧ sX1_part w c 2 = w (104 + 8 * c + 2) ∧ sX1_part w c 3 = w (104 + 8 * c + 3) ∧ sX1_part w c 4 = w (104 + 8 * c + 4) ∧ sX1_part w c 5 = w (104 + 8 * c + 5) ∧ sX1_part w c 6 = w (104 + 8 * c + 6) ∧ sX1_part w c 7 = w (104 + 8 * c + 7) := by
  refine ⟨?_, ?_, ?_, ?_, ?_, ?_, ?_, ?_⟩ <;> (unfold sX1_part; simp only [show ¬ (1 : Int32) = 0 from by decide, show ¬ (2 : Int32) = 0 from by decide, show ¬ (2 : Int32) = 1 from by decide, show ¬ (3 : Int32) = 0 from by decide, show ¬ (3 : Int32) = 1 from by decide, show ¬ (3 : Int32) = 2 from by decide, show ¬ (4 : Int32) = 0 from by decide, show ¬ (4 : Int32) = 1 from by decide, show ¬ (4 : Int32) = 2 from by decide, show ¬ (4 : Int32) = 3 from by decide, show ¬ (5 : Int32) = 0 from by decide, show ¬ (5 : Int32) = 1 from by decide, show ¬ (5 : Int32) = 2 from by decide, show ¬ (5 : Int32) = 3 from by decide, show ¬ (5 : Int32) = 4 from by decide, show ¬ (6 : Int32) = 0 from by decide, show ¬ (6 : Int32) = 1 from by decide, show ¬ (6 : Int32) = 2 from by decide, show ¬ (6 : Int32) = 3 from by decide, show ¬ (6 : Int32) = 4 from by decide, show ¬ (6 : Int32) = 5 from by decide, show ¬ (7 : Int32) = 0 from by decide, show ¬ (7 : Int32) = 1 from by decide, show ¬ (7 : Int32) = 2 from by decide, show ¬ (7 : Int32) = 3 from by decide, show ¬ (7 : Int32) = 4 from by decide, show ¬ (7 : Int32) = 5 from by decide, show ¬ (7 : Int32) = 6 from by decide, if_true, if_false])
theorem part0 {w : Row} : sX0_part w i 0 = w (20 + 7 * i) ∧ sX0_part w i 1 = w (20 + 7 * i + 1) ∧ sX0_part w i 2 = w (20 + 7 * i + 2) ∧ sX0_part w i 3 = w (20 + 7 * i + 3) ∧ sX0_part w i 4 = w (360 + i) ∧ sX0_part w i 5 = w (20 + 7 * i + 4) ∧ sX0_part w i 6 = w (20 + 7 * i + 5) := by
  refine ⟨?_, ?_, ?_, ?_, ?_, ?_, ?_⟩ <;> (unfold sX0_part; simp only [show ¬ (1 : Int32) = 0 from by decide, show ¬ (2 : Int32) = 0 from by decide, show ¬ (2 : Int32) = 1 from by decide, show ¬ (3 : Int32) = 0 from by decide, show ¬ (3 : Int32) = 1 from by decide, show ¬ (3 : Int32) = 2 from by decide, show ¬ (4 : Int32) = 0 from by decide, show ¬ (4 : Int32) = 1 from by decide, show ¬ (4 : Int32) = 2 from by decide, show ¬ (4 : Int32) = 3 from by decide, show ¬ (5 : Int32) = 0 from by decide, show ¬ (5 : Int32) = 1 from by decide, show ¬ (5 : Int32) = 2 from by decide, show ¬ (5 : Int32) = 3 from by decide, show ¬ (5 : Int32) = 4 from by decide, show ¬ (6 : Int32) = 0 from by decide, show ¬ (6 : Int32) = 1 from by decide, show ¬ (6 : Int32) = 2 from by decide, show ¬ (6 : Int32) = 3 from by decide, show ¬ (6 : Int32) = 4 from by decide, show ¬ (6 : Int32) = 5 from by decide, if_true, if_false])
theorem ofC (hcn : Cn (g.1 0)) (hc : c < nn (g.1 0 6)) {x : Int32} (hx : ¬ sX6_isBelow x 8 = 0) : sX6_ofCart g (nI c) x = sX1_part (g.1 0) c x := by
  unfold sX6_ofCart
  rw [cartOf_in hcn hc, oe_some rfl, if_neg hx]
theorem ofB (hcn : Cn (g.1 0)) (hi : i < nn (g.1 0 5)) {x : Int32} (hx : ¬ sX6_isBelow x 8 = 0) : sX6_ofBridge g (nI i) x = sX0_part (g.1 0) i x := by
  unfold sX6_ofBridge
  rw [bridgeOf_in hcn hi, oe_some rfl, if_neg hx]
theorem ofC_0 (hcn : Cn (g.1 0)) (hc : c < nn (g.1 0 6)) : sX6_ofCart g (nI c) 0 = (g.1 0) (104 + 8 * c) := (ofC hcn hc (by decide)).trans part1.1
theorem ofC_1 (hcn : Cn (g.1 0)) (hc : c < nn (g.1 0 6)) : sX6_ofCart g (nI c) 1 = (g.1 0) (104 + 8 * c + 1) := (ofC hcn hc (by decide)).trans part1.2.1
theorem ofC_2 (hcn : Cn (g.1 0)) (hc : c < nn (g.1 0 6)) : sX6_ofCart g (nI c) 2 = (g.1 0) (104 + 8 * c + 2) := (ofC hcn hc (by decide)).trans part1.2.2.1
theorem ofC_3 (hcn : Cn (g.1 0)) (hc : c < nn (g.1 0 6)) : sX6_ofCart g (nI c) 3 = (g.1 0) (104 + 8 * c + 3) := (ofC hcn hc (by decide)).trans part1.2.2.2.1
theorem ofC_4 (hcn : Cn (g.1 0)) (hc : c < nn (g.1 0 6)) : sX6_ofCart g (nI c) 4 = (g.1 0) (104 + 8 * c + 4) := (ofC hcn hc (by decide)).trans part1.2.2.2.2.1
theorem ofC_5 (hcn : Cn (g.1 0)) (hc : c < nn (g.1 0 6)) : sX6_ofCart g (nI c) 5 = (g.1 0) (104 + 8 * c + 5) := (ofC hcn hc (by decide)).trans part1.2.2.2.2.2.1
theorem ofC_6 (hcn : Cn (g.1 0)) (hc : c < nn (g.1 0 6)) : sX6_ofCart g (nI c) 6 = (g.1 0) (104 + 8 * c + 6) := (ofC hcn hc (by decide)).trans part1.2.2.2.2.2.2.1
theorem ofC_7 (hcn : Cn (g.1 0)) (hc : c < nn (g.1 0 6)) : sX6_ofCart g (nI c) 7 = (g.1 0) (104 + 8 * c + 7) := (ofC hcn hc (by decide)).trans part1.2.2.2.2.2.2.2
theorem ofB_0 (hcn : Cn (g.1 0)) (hi : i < nn (g.1 0 5)) : sX6_ofBridge g (nI i) 0 = (g.1 0) (20 + 7 * i) := (ofB hcn hi (by decide)).trans part0.1
theorem ofB_1 (hcn : Cn (g.1 0)) (hi : i < nn (g.1 0 5)) : sX6_ofBridge g (nI i) 1 = (g.1 0) (20 + 7 * i + 1) := (ofB hcn hi (by decide)).trans part0.2.1
theorem ofB_2 (hcn : Cn (g.1 0)) (hi : i < nn (g.1 0 5)) : sX6_ofBridge g (nI i) 2 = (g.1 0) (20 + 7 * i + 2) := (ofB hcn hi (by decide)).trans part0.2.2.1
theorem ofB_3 (hcn : Cn (g.1 0)) (hi : i < nn (g.1 0 5)) : sX6_ofBridge g (nI i) 3 = (g.1 0) (20 + 7 * i + 3) := (ofB hcn hi (by decide)).trans part0.2.2.2.1
theorem ofB_4 (hcn : Cn (g.1 0)) (hi : i < nn (g.1 0 5)) : sX6_ofBridge g (nI i) 4 = (g.1 0) (360 + i) := (ofB hcn hi (by decide)).trans part0.2.2.2.2.1
theorem ofB_5 (hcn : Cn (g.1 0)) (hi : i < nn (g.1 0 5)) : sX6_ofBridge g (nI i) 5 = (g.1 0) (20 + 7 * i + 4) := (ofB hcn hi (by decide)).trans part0.2.2.2.2.2.1
theorem ofB_6 (hcn : Cn (g.1 0)) (hi : i < nn (g.1 0 5)) : sX6_ofBridge g (nI i) 6 = (g.1 0) (20 + 7 * i + 5) := (ofB hcn hi (by decide)).trans part0.2.2.2.2.2.2
theorem kn_0 (hcn : Cn (g.1 0)) (hc : c < nn (g.1 0 6)) (hi : i < nn (g.1 0 5)) : sX6_knows g (nI c) (nI i) 0 = (g.1 0) (168 + 2 * (12 * c + i)) := by
  unfold sX6_knows
  rw [cartOf_in hcn hc, oe_some rfl, bridgeOf_in hcn hi, oe_some rfl, if_neg (by decide), if_pos rfl]
  rfl
theorem kn_1 (hcn : Cn (g.1 0)) (hc : c < nn (g.1 0 6)) (hi : i < nn (g.1 0 5)) : sX6_knows g (nI c) (nI i) 1 = (g.1 0) (168 + 2 * (12 * c + i) + 1) := by
  unfold sX6_knows
  rw [cartOf_in hcn hc, oe_some rfl, bridgeOf_in hcn hi, oe_some rfl, if_neg (by decide), if_neg (by decide)]
  rfl
theorem wt_some (h : WI (g.1 0)) (hi : i < nn (g.1 0 5)) {r : Nat} (hr : r < 2 ^ 31) (hq : nthL (g.1 0) i (qs (g.1 0)) r = some c) : sX6_waits g (nI i) (nI r) = nI c := by
  have h5 := h.a.n5
  unfold sX6_waits
  have hl : ¬ cntL (g.1 0) i (qs (g.1 0)) ≤ r := fun q => by
    rw [(nthL_none _ _).mpr q] at hq
    cases hq
  have hb : ¬ sX6_isBelow (nI r) ((g.1 0) (360 + i)) = 0 := by
    have hk := cntL_len (w := g.1 0) (i := i) (qs (g.1 0))
    rw [qs_len] at hk
    have h8 := h.cn.1.le
    rw [isB_iff, h.k i (by omega), nI_toInt hr, nI_toInt (by omega)]
    omega
  rw [bridgeOf_in h.cn hi, oe_some rfl, if_neg hb, h.wa hr, hq, oe_some rfl]
  rfl
theorem wt_none (h : WI (g.1 0)) (hi : i < nn (g.1 0 5)) {r : Nat} (hr : r < 2 ^ 31) (hq : nthL (g.1 0) i (qs (g.1 0)) r = none) : sX6_waits g (nI i) (nI r) = -1 := by
  unfold sX6_waits
  rw [bridgeOf_in h.cn hi, oe_some rfl]
  by_cases hb : sX6_isBelow (nI r) ((g.1 0) (360 + i)) = 0
  · rw [if_pos hb]
  · rw [if_neg hb, h.wa hr, hq, oe_none rfl]
    rfl
theorem nx_eq (h : WI (g.1 0)) (hi : i < nn (g.1 0 5)) : sX6_next g (nI i) = enc (cmr (g.1 0) i) := by
  unfold sX6_next
  rw [bridgeOf_in h.cn hi, oe_some rfl, h.comer hi]
  cases cmr (g.1 0) i <;> rfl
/-- neither 0 nor 1 -/
def N01 (v : Int32) : Prop := ¬ v = 0 ∧ ¬ v = 1
theorem N01_i {q : Prop} {d : Decidable q} {a b : Int32} (h1 : N01 a) (h2 : N01 b) : N01 (@ite _ q d a b) := by cases d <;> assumption
theorem N01_o {o : Option Nat} {a : Int32} {f : Nat → Int32} (h1 : N01 a) (h2 : ∀ q, N01 (f q)) : N01 (oe o a f) := by
  cases o with
  | none => exact h1
  | some q => exact h2 q
theorem why_no (hcn : Cn (g.1 0)) (hc : c < nn (g.1 0 6)) (hw : (g.1 0) (104 + 8 * c + 2) = -6) : sX6_why g (nI c) = 1 := by
  unfold sX6_why
  rw [cartOf_in hcn hc, oe_some rfl]
  unfold sX5_reasonToStay
  rw [hw, bridgeOf_no hcn, oe_none rfl]
theorem why_is (h : WI (g.1 0)) (hc : c < nn (g.1 0 6)) (hi : i < nn (g.1 0 5)) (hw : (g.1 0) (104 + 8 * c + 2) = nI i) : ¬ sX6_why g (nI c) = 1 ∧ (sX6_why g (nI c) = 0 ↔ cmr (g.1 0) i = some c) := by
  have n2 : N01 2 := ⟨by decide, by decide⟩
  have n3 : N01 3 := ⟨by decide, by decide⟩
  have n4 : N01 4 := ⟨by decide, by decide⟩
  have n5 : N01 5 := ⟨by decide, by decide⟩
  have n6 : N01 6 := ⟨by decide, by decide⟩
  unfold sX6_why
  rw [cartOf_in h.cn hc, oe_some rfl]
  unfold sX5_reasonToStay
  rw [hw, bridgeOf_in h.cn hi, oe_some rfl, h.comer hi]
  cases e : cmr (g.1 0) i with
  | none =>
    rw [oe_none rfl]
    have a : N01 (if (g.1 0) (360 + i) = 1 then (2 : Int32) else (oe (sX5_waiterAt (g.1 0) i 0) (oe (sX5_waiterAt (g.1 0) i 1) (3) (fun q4 => if q4 = c then (if sX5_isTied (g.1 0) i = 0 then (4) else (6)) else (3))) (fun q3 => if q3 = c then (if sX5_isTied (g.1 0) i = 0 then (4) else (6)) else (oe (sX5_waiterAt (g.1 0) i 1) (3) (fun q5 => if q5 = c then (if sX5_isTied (g.1 0) i = 0 then (4) else (6)) else (3)))))) :=
      N01_i n2 (N01_o (N01_o n3 (fun _ => N01_i (N01_i n4 n6) n3)) (fun _ => N01_i (N01_i n4 n6) (N01_o n3 (fun _ => N01_i (N01_i n4 n6) n3))))
    exact ⟨a.2, fun q => absurd q a.1, fun q => by cases q⟩
  | some d =>
    rw [oe_some rfl]
    by_cases ed : d = c
    · rw [if_pos ed]
      exact ⟨by decide, fun _ => by rw [ed], fun _ => rfl⟩
    · rw [if_neg ed]
      have a : N01 (if (g.1 0) (360 + i) = 1 then (2 : Int32) else (oe (sX5_waiterAt (g.1 0) i 0) (oe (sX5_waiterAt (g.1 0) i 1) (3) (fun q7 => if q7 = c then (if sX5_isTied (g.1 0) i = 0 then (4) else (5)) else (3))) (fun q6 => if q6 = c then (if sX5_isTied (g.1 0) i = 0 then (4) else (5)) else (oe (sX5_waiterAt (g.1 0) i 1) (3) (fun q8 => if q8 = c then (if sX5_isTied (g.1 0) i = 0 then (4) else (5)) else (3)))))) :=
        N01_i n2 (N01_o (N01_o n3 (fun _ => N01_i (N01_i n4 n5) n3)) (fun _ => N01_i (N01_i n4 n5) (N01_o n3 (fun _ => N01_i (N01_i n4 n5) n3))))
      exact ⟨a.2, fun q => absurd q a.1, fun q => by cases q; exact absurd rfl ed⟩
/-- sums and sets -/
theorem sumC_eq {w : Row} {f : Int32} (hcn : Cn w) : sX5_sumOverCarts w f = sumI (fun k => sX1_part w k f) (nn (w 6)) := by
  have h8 := hcn.2.2.le
  have key : ∀ (n p : Nat), p ≤ nn (w 6) → nn (w 6) - p < n → bX5_sumOverCarts_4 w f n (sumI (fun k => sX1_part w k f) p) p = sumI (fun k => sX1_part w k f) (nn (w 6)) := by
    intro n
    induction n with
    | zero => intro p _ h; omega
    | succ n ih =>
      intro p hp hn
      rw [bX5_sumOverCarts_4]
      have hcl := cnt_le (c := w 6) (p := p) hcn.2.2 (by omega)
      by_cases d : w 6 ≤ nI p
      · rw [if_pos d, show p = nn (w 6) by have := hcl.mp d; omega]
      · rw [if_neg d]
        have hp2 : p < nn (w 6) := by
          rcases Nat.lt_or_ge p (nn (w 6)) with q | q
          · exact q
          · exact absurd (hcl.mpr q) d
        exact ih (p + 1) (by omega) (by omega)
  exact key 9 0 (by omega) (by omega)
theorem sumB_eq {w : Row} {f : Int32} (hcn : Cn w) : sX5_sumOverBridges w f = sumI (fun k => sX0_part w k f) (nn (w 5)) := by
  have h8 := hcn.2.1.le
  have key : ∀ (n p : Nat), p ≤ nn (w 5) → nn (w 5) - p < n → bX5_sumOverBridges_4 w f n (sumI (fun k => sX0_part w k f) p) p = sumI (fun k => sX0_part w k f) (nn (w 5)) := by
    intro n
    induction n with
    | zero => intro p _ h; omega
    | succ n ih =>
      intro p hp hn
      rw [bX5_sumOverBridges_4]
      have hcl := cnt_le (c := w 5) (p := p) hcn.2.1 (by omega)
      by_cases d : w 5 ≤ nI p
      · rw [if_pos d, show p = nn (w 5) by have := hcl.mp d; omega]
      · rw [if_neg d]
        have hp2 : p < nn (w 5) := by
          rcases Nat.lt_or_ge p (nn (w 5)) with q | q
          · exact q
          · exact absurd (hcl.mpr q) d
        exact ih (p + 1) (by omega) (by omega)
  exact key 13 0 (by omega) (by omega)
theorem MS_wait {w : Row} (hcn : Cn w) : MS (sX5_waitingSet w) (fun k => k < nn (w 6) ∧ ¬ w (104 + 8 * k + 2) = -6) := by
  have h8 := hcn.2.2.le
  have key : ∀ (n p : Nat) (v : Int32), p ≤ nn (w 6) → nn (w 6) - p < n → MS v (fun k => k < p ∧ ¬ w (104 + 8 * k + 2) = -6) → MS (bX5_waitingSet_4 w n v p) (fun k => k < nn (w 6) ∧ ¬ w (104 + 8 * k + 2) = -6) := by
    intro n
    induction n with
    | zero => intro p v _ h; omega
    | succ n ih =>
      intro p v hp hn hv
      rw [bX5_waitingSet_4]
      have hcl := cnt_le (c := w 6) (p := p) hcn.2.2 (by omega)
      by_cases d : w 6 ≤ nI p
      · rw [if_pos d]
        have e : p = nn (w 6) := by have := hcl.mp d; omega
        rw [← e]; exact hv
      · rw [if_neg d]
        have hp2 : p < nn (w 6) := by
          rcases Nat.lt_or_ge p (nn (w 6)) with q | q
          · exact q
          · exact absurd (hcl.mpr q) d
        unfold sX1_isWaiting
        by_cases e : w (104 + 8 * p + 2) = -6
        · rw [if_pos e, if_pos rfl]
          refine ih (p + 1) _ (by omega) (by omega) (MS_c (fun k => ?_) hv)
          constructor
          · rintro ⟨a, b⟩; exact ⟨by omega, b⟩
          · rintro ⟨a, b⟩
            refine ⟨?_, b⟩
            by_cases k' : k = p
            · subst k'; exact absurd e b
            · omega
        · rw [if_neg e, if_neg (by decide)]
          refine ih (p + 1) _ (by omega) (by omega) (MS_c (fun k => ?_) (MS_or (c := p) (by omega) hv))
          constructor
          · rintro (⟨a, b⟩ | a)
            · exact ⟨by omega, b⟩
            · subst a; exact ⟨by omega, e⟩
          · rintro ⟨a, b⟩
            by_cases k' : k = p
            · exact Or.inr k'
            · exact Or.inl ⟨by omega, b⟩
  exact key 9 0 0 (by omega) (by omega) (MS_c (fun k => ⟨fun q => absurd q id, fun q => absurd q.1 (Nat.not_lt_zero _)⟩) MS_0)
theorem ct_1 : sX6_count g 1 = (g.1 0) 5 := rfl
theorem ct_2 : sX6_count g 2 = (g.1 0) 6 := rfl
theorem ct_3 : sX6_count g 3 = sX5_waitingSet (g.1 0) := rfl
theorem ct_4 : sX6_count g 4 = sX5_sumOverBridges (g.1 0) 6 := rfl
theorem ct_5 : sX6_count g 5 = sX5_sumOverCarts (g.1 0) 1 := rfl
theorem ct_6 : sX6_count g 6 = sX5_sumOverBridges (g.1 0) 5 := rfl
theorem ct_7 : sX6_count g 7 = (g.1 0) 8 := rfl
theorem ct_13 : sX6_count g 13 = g.2.1 3 := rfl
theorem ct_14 : sX6_count g 14 = g.2.1 1 := rfl
end RD
