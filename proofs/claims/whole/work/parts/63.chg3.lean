theorem leave_rel {w r : Row} {x : Int32} (hI : Inv r) (h : Rel w r) : (¬ sX7_leaveError r x = 0 → sX5_stopWaiting w x = (sX7_leaveError r x, w) ∧ sX7_leaveError r x < 0) ∧
    (sX7_leaveError r x = 0 → (sX5_stopWaiting w x).1 = (sX7_leaves r (nn x)).1 ∧ 0 ≤ (sX5_stopWaiting w x).1 ∧ Rel (sX5_stopWaiting w x).2 (sX7_leaves r (nn x)).2) := by
  have hr := hI.1
  have h5 := hr.1.2.1.le
  unfold sX5_stopWaiting sX7_leaveError
  rw [cartOf_E hr.1 h]
  by_cases t1 : sX7_isCart r x = 0
  · rw [if_pos t1, if_pos t1, oe_none rfl]
    exact ⟨fun _ => ⟨rfl, by decide⟩, fun q => absurd q (by decide)⟩
  rw [if_neg t1, if_neg t1, oe_some rfl]
  have hC := isCart_of hr.1 t1
  have ea : w (104 + 8 * nn x + 2) = r (104 + 8 * nn x + 2) := h.c (f := 2) hC.2.2 (by omega) (fun _ => hC.2.1)
  rw [ea, bridgeOf_E hr.1 h]
  by_cases t4 : r (104 + 8 * nn x + 2) = -6
  · have nb : sX7_isBridge r (-6) = 0 := Decidable.byContradiction fun q => by
      have := (in_cnt hr.1.2.1).mp q
      exact absurd this.1 (by decide)
    rw [if_pos t4, t4, if_pos nb, oe_none rfl]
    exact ⟨fun _ => ⟨rfl, by decide⟩, fun q => absurd q (by decide)⟩
  · rw [if_neg t4]
    have hm := (hI.2.1.2.2 (nn x) hC.2.1).resolve_left t4
    obtain ⟨-, i, hi, hai⟩ := hI.2.1.2.1 _ hm
    have sb : ¬ sX7_isBridge r (nI i) = 0 := (in_cnt hr.1.2.1).mpr (by
      rw [nI_toInt (by omega)]
      have := nn_toInt hr.1.2.1.1
      omega)
    rw [hai, if_neg sb, oe_some rfl, nn_nI (by omega)]
    refine ⟨fun q => absurd rfl q, fun _ => ⟨?_, nI_pos' (by omega), Rel_release hm hai (by omega) hI h⟩⟩
    show nI i = (r (104 + 8 * nn x + 2))
    exact hai.symm
theorem hint_rel {w r : Row} {x y : Int32} (hI : Inv r) (h : Rel w r) : (¬ sX7_hintError r x y = 0 → sX5_buyHint w x y = (sX7_hintError r x y, w) ∧ sX7_hintError r x y < 0) ∧
    (sX7_hintError r x y = 0 → (sX5_buyHint w x y).1 = (sX7_hints r (nn x) (nn y)).1 ∧ 0 ≤ (sX5_buyHint w x y).1 ∧ Rel (sX5_buyHint w x y).2 (sX7_hints r (nn x) (nn y)).2) := by
  have hr := hI.1
  have h5 := hr.1.2.1.le
  unfold sX5_buyHint sX7_hintError
  rw [cartOf_E hr.1 h, bridgeOf_E hr.1 h]
  by_cases t1 : sX7_isCart r x = 0
  · rw [if_pos t1, if_pos t1, oe_none rfl]
    refine ⟨fun _ => ⟨?_, by decide⟩, fun q => absurd q (by decide)⟩
    by_cases t2 : sX7_isBridge r y = 0
    · rw [if_pos t2, oe_none rfl]
    · rw [if_neg t2, oe_some rfl]
  rw [if_neg t1, if_neg t1, oe_some rfl]
  by_cases t2 : sX7_isBridge r y = 0
  · rw [if_pos t2, if_pos t2, oe_none rfl]
    exact ⟨fun _ => ⟨rfl, by decide⟩, fun q => absurd q (by decide)⟩
  rw [if_neg t2, if_neg t2, oe_some rfl]
  have hC := isCart_of hr.1 t1
  have hB := isBridge_of hr.1 t2
  rw [isAt_E hB.2.2 hC.2.2 h]
  by_cases t5 : sX7_isAt r (nn y) (r (104 + 8 * nn x)) = 0
  · rw [if_pos t5, if_pos t5]
    exact ⟨fun _ => ⟨rfl, by decide⟩, fun q => absurd q (by decide)⟩
  rw [if_neg t5, if_neg t5, h.c (c := nn x) (f := 1) hC.2.2 (by omega) (by omega), h.j (show 1 < 11 by omega)]
  by_cases t6 : r (104 + 8 * nn x + 1) < r 1
  · rw [if_pos t6, if_pos t6]
    exact ⟨fun _ => ⟨rfl, by decide⟩, fun q => absurd q (by decide)⟩
  rw [if_neg t6, if_neg t6]
  have hlo : w (168 + 2 * (12 * nn x + nn y)) = r (168 + 2 * (12 * nn x + nn y)) := h.g (by omega) (by omega)
  have hhi : w (168 + 2 * (12 * nn x + nn y) + 1) = r (168 + 2 * (12 * nn x + nn y) + 1) := h.g (by omega) (by omega)
  obtain ⟨r0, r1, r2⟩ := hI.2.2.2.2.1 (nn x) (nn y) hC.2.2 hB.2.2 hB.2.1
  have hsz := (hr.2.2.1 _ hB.2.2).2.2.2
  have o1 : (1 : Int32).toInt = 1 := by decide
  have hL : sX1_numbersLeft w (nn x) (nn y) = 1 ↔ r (168 + 2 * (12 * nn x + nn y) + 1) ≤ r (168 + 2 * (12 * nn x + nn y)) := by
    unfold sX1_numbersLeft sX1_highest sX1_lowest
    rw [hlo, hhi, ← Int32.toInt_inj, Int32.le_iff_toInt_le]
    have e1 := ts (a := r (168 + 2 * (12 * nn x + nn y) + 1)) (b := r (168 + 2 * (12 * nn x + nn y))) (by omega)
    rw [ta (by rw [e1, o1]; omega), e1, o1]
    omega
  by_cases t7 : r (168 + 2 * (12 * nn x + nn y) + 1) ≤ r (168 + 2 * (12 * nn x + nn y))
  · rw [if_pos t7, if_pos (hL.mpr t7)]
    exact ⟨fun _ => ⟨rfl, by decide⟩, fun q => absurd q (by decide)⟩
  rw [if_neg t7, if_neg (fun q => t7 (hL.mp q))]
  refine ⟨fun q => absurd rfl q, fun _ => ?_⟩
  have hm := mid_sm hC.2.2 hB.2.1 hI
  rw [hints_eq hC.2.2 hB.2.2]
  have kP := Rel_pays (x := r 1) hC.2.2 hB.2.2 hr.1 h
  have rP := Rn_pays (x := r 1) hC.2.2 hB.2.2 hr
  have kH : Rel (upd (sX7_pays w (nn x) (nn y) (r 1)) 9 (r 9 + 1)) (hin r (nn x) (nn y)) := Rel_upd (by omega) (by omega) (by omega) (fun c hc => by omega) (by omega) rP.1 kP
  have cH : Cn (hin r (nn x) (nn y)) := Cn_upd (by omega) (by omega) (by omega) rP.1
  rw [pay_eq]
  have P0 : sX7_pays w (nn x) (nn y) (r 1) (168 + 2 * (12 * nn x + nn y)) = r (168 + 2 * (12 * nn x + nn y)) := by rw [pays_o (by omega) (by omega) (by omega)]; exact hlo
  have P1 : sX7_pays w (nn x) (nn y) (r 1) (168 + 2 * (12 * nn x + nn y) + 1) = r (168 + 2 * (12 * nn x + nn y) + 1) := by rw [pays_o (by omega) (by omega) (by omega)]; exact hhi
  have P3 : sX7_pays w (nn x) (nn y) (r 1) (20 + 7 * nn y + 3) = r (20 + 7 * nn y + 3) := by rw [pays_o (by omega) (by omega) (by omega)]; exact h.b (by omega) (by omega)
  have P9 : sX7_pays w (nn x) (nn y) (r 1) 9 = r 9 := by rw [pays_o (by omega) (by omega) (by omega)]; exact h.j (by omega)
  have t7' : ¬ (r (168 + 2 * (12 * nn x + nn y) + 1)).toInt ≤ (r (168 + 2 * (12 * nn x + nn y))).toInt := fun q => t7 (Int32.le_iff_toInt_le.mpr q)
  have z0 : (0 : Int32).toInt = 0 := by decide
  generalize sX7_pays w (nn x) (nn y) (r 1) = W at *
  have H : sX1_halve W (nn x) (nn y) = if mid r (nn x) (nn y) < r (20 + 7 * nn y + 3) then upd W (168 + 2 * (12 * nn x + nn y)) (mid r (nn x) (nn y) + 1) else upd W (168 + 2 * (12 * nn x + nn y) + 1) (mid r (nn x) (nn y)) := by
    unfold sX1_halve sX1_lowest sX1_highest
    rw [P0, P1, P3]; rfl
  rw [H]
  by_cases c1 : mid r (nn x) (nn y) < r (20 + 7 * nn y + 3)
  · rw [if_pos c1, if_pos c1]
    have K : Rel (upd (upd W 9 (r 9 + 1)) (168 + 2 * (12 * nn x + nn y)) (mid r (nn x) (nn y) + 1)) (upd (hin r (nn x) (nn y)) (168 + 2 * (12 * nn x + nn y)) (mid r (nn x) (nn y) + 1)) := Rel_upd (by omega) (by omega) (by omega) (fun c hc => by omega) (by omega) cH kH
    have e : upd (upd W (168 + 2 * (12 * nn x + nn y)) (mid r (nn x) (nn y) + 1)) 9 ((upd W (168 + 2 * (12 * nn x + nn y)) (mid r (nn x) (nn y) + 1)) 9 + 1) = upd (upd W 9 (r 9 + 1)) (168 + 2 * (12 * nn x + nn y)) (mid r (nn x) (nn y) + 1) := by
      rw [updn (show ¬ 9 = 168 + 2 * (12 * nn x + nn y) by omega), P9, upd_comm (show ¬ 168 + 2 * (12 * nn x + nn y) = 9 by omega)]
    rw [e]
    have a : sX1_numbersLeft (upd (upd W 9 (r 9 + 1)) (168 + 2 * (12 * nn x + nn y)) (mid r (nn x) (nn y) + 1)) (nn x) (nn y) = r (168 + 2 * (12 * nn x + nn y) + 1) - (mid r (nn x) (nn y) + 1) + 1 := by
      unfold sX1_numbersLeft sX1_highest sX1_lowest
      rw [upde, updn (show ¬ 168 + 2 * (12 * nn x + nn y) + 1 = 168 + 2 * (12 * nn x + nn y) by omega), updn (show ¬ 168 + 2 * (12 * nn x + nn y) + 1 = 9 by omega), P1]
    refine ⟨a, ?_, K⟩
    show 0 ≤ sX1_numbersLeft (upd (upd W 9 (r 9 + 1)) (168 + 2 * (12 * nn x + nn y)) (mid r (nn x) (nn y) + 1)) (nn x) (nn y)
    rw [a, Int32.le_iff_toInt_le, z0]
    have m1 := ta (a := mid r (nn x) (nn y)) (b := 1) (by rw [o1]; omega)
    rw [o1] at m1
    have m2 := ts (a := r (168 + 2 * (12 * nn x + nn y) + 1)) (b := mid r (nn x) (nn y) + 1) (by omega)
    rw [ta (by rw [m2, o1]; omega), m2, o1]
    omega
  · rw [if_neg c1, if_neg c1]
    have K : Rel (upd (upd W 9 (r 9 + 1)) (168 + 2 * (12 * nn x + nn y) + 1) (mid r (nn x) (nn y))) (upd (hin r (nn x) (nn y)) (168 + 2 * (12 * nn x + nn y) + 1) (mid r (nn x) (nn y))) := Rel_upd (by omega) (by omega) (by omega) (fun c hc => by omega) (by omega) cH kH
    have e : upd (upd W (168 + 2 * (12 * nn x + nn y) + 1) (mid r (nn x) (nn y))) 9 ((upd W (168 + 2 * (12 * nn x + nn y) + 1) (mid r (nn x) (nn y))) 9 + 1) = upd (upd W 9 (r 9 + 1)) (168 + 2 * (12 * nn x + nn y) + 1) (mid r (nn x) (nn y)) := by
      rw [updn (show ¬ 9 = 168 + 2 * (12 * nn x + nn y) + 1 by omega), P9, upd_comm (show ¬ 168 + 2 * (12 * nn x + nn y) + 1 = 9 by omega)]
    rw [e]
    have a : sX1_numbersLeft (upd (upd W 9 (r 9 + 1)) (168 + 2 * (12 * nn x + nn y) + 1) (mid r (nn x) (nn y))) (nn x) (nn y) = mid r (nn x) (nn y) - r (168 + 2 * (12 * nn x + nn y)) + 1 := by
      unfold sX1_numbersLeft sX1_highest sX1_lowest
      rw [upde, updn (show ¬ 168 + 2 * (12 * nn x + nn y) = 168 + 2 * (12 * nn x + nn y) + 1 by omega), updn (show ¬ 168 + 2 * (12 * nn x + nn y) = 9 by omega), P0]
    refine ⟨a, ?_, K⟩
    show 0 ≤ sX1_numbersLeft (upd (upd W 9 (r 9 + 1)) (168 + 2 * (12 * nn x + nn y) + 1) (mid r (nn x) (nn y))) (nn x) (nn y)
    rw [a, Int32.le_iff_toInt_le, z0]
    have m2 := ts (a := mid r (nn x) (nn y)) (b := r (168 + 2 * (12 * nn x + nn y))) (by omega)
    rw [ta (by rw [m2, o1]; omega), m2, o1]
    omega
theorem set_rel {w r : Row} {x v : Int32} (hI : Inv r) (h : Rel w r) : (sX7_isValue x v = 0 → sX5_changeSetting w x v = (-2, w)) ∧
    (¬ sX7_isValue x v = 0 → (sX5_changeSetting w x v).1 = r (nn x) ∧ Rel (sX5_changeSetting w x v).2 (upd r (nn x) v) ∧ nn x < 4 ∧ sm v 50) := by
  have hr := hI.1
  have S : ∀ (k : Nat) (lo hi : Int64) (a b : Int32), k < 4 → x = nI k → nn x = k → a.toInt = lo.toInt → b.toInt = hi.toInt → st_least k = a → st_most k = b → sX7_isValue x v = sX7_in v.toInt64 lo hi → (0 ≤ lo.toInt ∧ hi.toInt ≤ 50) →
      (sX7_isValue x v = 0 → sX5_changeSetting w x v = (-2, w)) ∧ (¬ sX7_isValue x v = 0 → (sX5_changeSetting w x v).1 = r (nn x) ∧ Rel (sX5_changeSetting w x v).2 (upd r (nn x) v) ∧ nn x < 4 ∧ sm v 50) := by
    intro k lo hi a b hk hx hn h1 h2 h3 h4 h5 h6
    have hv := in_lt (x := v) h1 h2
    unfold sX5_changeSetting
    have hb : ¬ sX6_isBelow x 4 = 0 := by
      rw [isB_iff, hx, nI_toInt (by omega), show (4 : Int32).toInt = 4 from by decide]
      omega
    rw [if_neg hb, hn, h3, h4, h5]
    constructor
    · intro q
      rcases hv.mp q with q | q
      · rw [if_pos q]
      · by_cases q2 : v < a
        · rw [if_pos q2]
        · rw [if_neg q2, if_neg q]
    · intro q
      rw [if_neg (fun p => q (hv.mpr (Or.inl p))), if_pos (Decidable.byContradiction fun p => q (hv.mpr (Or.inr p)))]
      refine ⟨h.j (by omega), Rel_upd (by omega) (by omega) (by omega) (fun c hc => by omega) (by omega) hr.1 h, hk, ?_⟩
      have := (in_32 (x := v) (y := lo) (z := hi)).mp q
      have := h6
      exact sm_i (by omega) (by omega)
  by_cases x0 : x = 0
  · exact S 0 0 50 0 50 (by omega) x0 (by rw [x0]; decide) (by decide) (by decide) rfl rfl (by unfold sX7_isValue; rw [if_pos x0]) (by decide)
  by_cases x1 : x = 1
  · exact S 1 0 20 0 20 (by omega) x1 (by rw [x1]; decide) (by decide) (by decide) rfl rfl (by unfold sX7_isValue; rw [if_neg x0, if_pos x1]) (by decide)
  by_cases x2 : x = 2
  · exact S 2 0 50 0 50 (by omega) x2 (by rw [x2]; decide) (by decide) (by decide) rfl rfl (by unfold sX7_isValue; rw [if_neg x0, if_neg x1, if_pos x2]) (by decide)
  by_cases x3 : x = 3
  · exact S 3 1 20 1 20 (by omega) x3 (by rw [x3]; decide) (by decide) (by decide) rfl rfl (by unfold sX7_isValue; rw [if_neg x0, if_neg x1, if_neg x2, if_pos x3]) (by decide)
  have hv : sX7_isValue x v = 0 := by unfold sX7_isValue; rw [if_neg x0, if_neg x1, if_neg x2, if_neg x3]
  refine ⟨fun _ => ?_, fun q => absurd hv q⟩
  unfold sX5_changeSetting
  have hb : sX6_isBelow x 4 = 0 := Decidable.byContradiction fun q => by
    have := isB_iff.mp q
    rw [show (4 : Int32).toInt = 4 from by decide] at this
    have e := nI_nn this.1
    have en := nn_toInt this.1
    rcases (show nn x = 0 ∨ nn x = 1 ∨ nn x = 2 ∨ nn x = 3 by omega) with k | k | k | k
    · exact x0 (by rw [e, k]; rfl)
    · exact x1 (by rw [e, k]; rfl)
    · exact x2 (by rw [e, k]; rfl)
    · exact x3 (by rw [e, k]; rfl)
  rw [if_pos hb]
theorem pass_rel {w r : Row} {x : Int32} (hI : Inv r) (h : Rel w r) : (¬ sX7_passError r x = 0 → sX5_passHours w x = (sX7_passError r x, w) ∧ sX7_passError r x < 0) ∧
    (sX7_passError r x = 0 → (sX5_passHours w x).1 = (sX7_hours r x).1 ∧ Rel (sX5_passHours w x).2 (sX7_hours r x).2) := by
  have hx := in_lt (x := x) (lo := 1) (hi := 99) (a := 1) (b := 99) (by decide) (by decide)
  unfold sX5_passHours sX7_passError
  by_cases t4 : sX7_in x.toInt64 1 99 = 0
  · rw [if_pos t4]
    refine ⟨fun _ => ⟨?_, by decide⟩, fun q => absurd q (by decide)⟩
    rcases hx.mp t4 with q | q
    · rw [if_pos q]
    · by_cases q2 : x < 1
      · rw [if_pos q2]
      · rw [if_neg q2, if_neg q]
  rw [if_neg t4, if_neg (fun q => t4 (hx.mpr (Or.inl q))), if_pos (Decidable.byContradiction fun q => t4 (hx.mpr (Or.inr q))), h.j (show 4 < 11 by omega)]
  by_cases t5 : r 4 + x ≤ 9999
  · rw [if_pos t5, if_pos t5]
    exact ⟨fun q => absurd rfl q, fun _ => hours_rel hI h⟩
  · rw [if_neg t5, if_neg t5]
    exact ⟨fun _ => ⟨rfl, by decide⟩, fun q => absurd q (by decide)⟩
