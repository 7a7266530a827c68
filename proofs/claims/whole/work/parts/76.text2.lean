/-! texts: the note of a cart -/
def TT (u0 r0 u r : Row) : Prop := PG u r ∧ Pt r ∧ (u 0 = u0 0 ∧ u 1 = u0 1 ∧ u 10 = u0 10 ∧ u 11 = u0 11) ∧ r 0 = r0 0 ∧ r 10 = r0 10 ∧ r 11 = r0 11
theorem TT_ch {u0 r0 u r : Row} {v : Int32} (h : TT u0 r0 u r) (h1 : 33 ≤ v.toInt) (h2 : v.toInt ≤ 126) : TT u0 r0 (sX4_append u v) (sX7_types r v) := by
  obtain ⟨g, p, c, d⟩ := h
  have pl := p.1.le
  unfold sX4_append sX7_types
  rw [g.1]
  by_cases a : 80 ≤ r 1
  · rw [if_pos a, if_pos a]; exact ⟨g, p, c, d⟩
  · rw [if_neg a, if_neg a]
    have k : nn (r 1) < 80 := by
      rcases Nat.lt_or_ge (nn (r 1)) 80 with q | q
      · exact q
      · exact absurd (by rw [p.1.eq, show nn (r 1) = 80 by omega]; decide) a
    have e1 : r 1 + 1 = nI (nn (r 1) + 1) := by
      conv => lhs; rw [p.1.eq]
      exact nI_add _ 1
    have x3 : (upd u (100 + nn (r 1)) v) 3 = r 1 := (updn (by omega)).trans g.1
    have x1 : (upd r (100 + nn (r 1)) v) 1 = r 1 := updn (by omega)
    rw [x3, x1, e1]
    refine ⟨⟨by rw [upde, upde], fun j hj => ?_⟩, ⟨by rw [upde]; exact sm_nI (j := nn (r 1) + 1) (n := 80) (by omega) (by omega), by rw [updn (by omega), updn (by omega)]; exact p.2⟩, ?_, ?_⟩
    · rw [upde, nn_nI (by omega)] at hj
      rw [updn (show ¬ 100 + j = 3 by omega), updn (show ¬ 100 + j = 1 by omega)]
      rcases Nat.lt_or_ge j (nn (r 1)) with q | q
      · rw [updn (show ¬ 100 + j = 100 + nn (r 1) by omega), updn (show ¬ 100 + j = 100 + nn (r 1) by omega)]; exact g.2 j q
      · have e : j = nn (r 1) := by omega
        subst e
        rw [upde, upde]; exact ⟨rfl, h1, h2⟩
    · rw [updn (by omega), updn (by omega), updn (by omega), updn (by omega), updn (by omega), updn (by omega), updn (by omega), updn (by omega)]; exact c
    · rw [updn (by omega), updn (by omega), updn (by omega), updn (by omega), updn (by omega), updn (by omega)]; exact d
theorem dv_toInt {x : Int32} {d : Nat} (h : 0 ≤ x.toInt) (hd : 0 < d) (hd2 : d < 2 ^ 31) : (x / nI d).toInt = x.toInt / d := by
  have e : (nI d).toInt = (d : Int) := nI_toInt hd2
  have ne : ¬ nI d = 0 := fun q => by
    have := congrArg Int32.toInt q
    rw [e, show (0 : Int32).toInt = 0 from by decide] at this
    omega
  have lt := x.toInt_lt
  by_cases c : nI d = -1
  · have := congrArg Int32.toInt c
    rw [e, show (-1 : Int32).toInt = -1 from by decide] at this
    omega
  · rw [Int32.toInt_div_of_ne_right _ _ c, e, Int.tdiv_eq_ediv_of_nonneg h]
theorem dig_b {q : Int32} (h : 0 ≤ q.toInt) : 33 ≤ (48 + (q - q / 10 * 10)).toInt ∧ (48 + (q - q / 10 * 10)).toInt ≤ 126 := by
  have lt := q.toInt_lt
  have e1 : (q / 10).toInt = q.toInt / 10 := dv_toInt (d := 10) h (by omega) (by omega)
  have e10 : (10 : Int32).toInt = 10 := by decide
  have e2 : (q / 10 * 10).toInt = q.toInt / 10 * 10 := by
    rw [Int32.toInt_mul, e1, e10, Int.bmod_eq_of_le (by omega) (by omega)]
  have e3 : (q - q / 10 * 10).toInt = q.toInt - q.toInt / 10 * 10 := by
    rw [Int32.toInt_sub, e2, Int.bmod_eq_of_le (by omega) (by omega)]
  rw [Int32.toInt_add, e3, show (48 : Int32).toInt = 48 from by decide, Int.bmod_eq_of_le (by omega) (by omega)]
  omega
theorem num_hi {x : Int32} {n : Nat} {u : Row} {k m : Nat} (hx : x.toInt < 1000000) (hk : 1000000 ≤ k) (hk2 : k < 2 ^ 31) (hm : nI k / 10 = nI m) : bX4_appendNumber_3 x (n + 1) u (nI k) = bX4_appendNumber_3 x n u (nI m) := by
  have e : (nI k).toInt = (k : Int) := nI_toInt hk2
  have e1 : (1 : Int32).toInt = 1 := by decide
  rw [bX4_appendNumber_3, if_neg (show ¬ nI k < 1 by rw [Int32.lt_iff_toInt_lt, e, e1]; omega), if_neg (show ¬ nI k ≤ x by rw [Int32.le_iff_toInt_le, e]; omega),
    if_neg (show ¬ nI k = 1 from fun q => by have := congrArg Int32.toInt q; rw [e, e1] at this; omega), hm]
theorem num_st {x : Int32} {n n' : Nat} {u0 r0 u r : Row} {k m : Nat} (hx0 : 0 ≤ x.toInt) (hk : 1 < k) (hk2 : k < 2 ^ 31) (hm : nI k / 10 = nI m) (h : TT u0 r0 u r)
    (ih : ∀ u r, TT u0 r0 u r → TT u0 r0 (bX4_appendNumber_3 x n u (nI m)) (bX7_typesNumber_3 x n' r (nI m))) : TT u0 r0 (bX4_appendNumber_3 x (n + 1) u (nI k)) (bX7_typesNumber_3 x (n' + 1) r (nI k)) := by
  have e : (nI k).toInt = (k : Int) := nI_toInt hk2
  have e1 : (1 : Int32).toInt = 1 := by decide
  rw [bX4_appendNumber_3, bX7_typesNumber_3, if_neg (show ¬ nI k < 1 by rw [Int32.lt_iff_toInt_lt, e, e1]; omega), if_neg (show ¬ nI k ≤ 1 by rw [Int32.le_iff_toInt_le, e, e1]; omega), hm]
  have dq : (x / nI k).toInt = x.toInt / k := dv_toInt hx0 (by omega) hk2
  have d0 : 0 ≤ (x / nI k).toInt := by rw [dq]; exact Int.ediv_nonneg hx0 (by omega)
  by_cases c : nI k ≤ x
  · rw [if_pos c, if_neg (show ¬ x < nI k by rw [Int32.le_iff_toInt_le] at c; rw [Int32.lt_iff_toInt_lt]; omega)]
    exact ih _ _ (TT_ch h (dig_b d0).1 (dig_b d0).2)
  · rw [if_neg c, if_pos (show x < nI k by rw [Int32.le_iff_toInt_le] at c; rw [Int32.lt_iff_toInt_lt]; omega),
      if_neg (show ¬ nI k = 1 from fun q => by have := congrArg Int32.toInt q; rw [e, e1] at this; omega)]
    exact ih _ _ h
theorem num_end {x : Int32} {n n' : Nat} {u0 r0 u r : Row} (hx0 : 0 ≤ x.toInt) (h : TT u0 r0 u r) : TT u0 r0 (bX4_appendNumber_3 x (n + 2) u (nI 1)) (bX7_typesNumber_3 x (n' + 1) r (nI 1)) := by
  have x1 : x / nI 1 = x := Int32.toInt_inj.mp (by rw [dv_toInt hx0 (by omega) (by omega)]; omega)
  have z0 : nI 1 / 10 = nI 0 := by decide
  rw [bX4_appendNumber_3, bX7_typesNumber_3, if_neg (show ¬ nI 1 < 1 by decide), if_pos (show nI 1 ≤ 1 by decide), x1, z0]
  have nx : ∀ v, bX4_appendNumber_3 x (n + 1) v (nI 0) = v := fun v => by rw [bX4_appendNumber_3, if_pos (show nI 0 < 1 by decide)]
  rw [nx]
  have t := TT_ch h (dig_b hx0).1 (dig_b hx0).2
  by_cases c : nI 1 ≤ x
  · rw [if_pos c]; exact t
  · rw [if_neg c, if_pos (show nI 1 = 1 from rfl)]; exact t
theorem TT_num {x : Int32} {u0 r0 u r : Row} (h0 : 0 ≤ x.toInt) (h1 : x.toInt < 1000000) (h : TT u0 r0 u r) : TT u0 r0 (sX4_appendNumber u x) (sX7_typesNumber r x) := by
  have q1 : nI 1000000000 / 10 = nI 100000000 := by decide
  have q2 : nI 100000000 / 10 = nI 10000000 := by decide
  have q3 : nI 10000000 / 10 = nI 1000000 := by decide
  have q4 : nI 1000000 / 10 = nI 100000 := by decide
  have q5 : nI 100000 / 10 = nI 10000 := by decide
  have q6 : nI 10000 / 10 = nI 1000 := by decide
  have q7 : nI 1000 / 10 = nI 100 := by decide
  have q8 : nI 100 / 10 = nI 10 := by decide
  have q9 : nI 10 / 10 = nI 1 := by decide
  show TT u0 r0 (bX4_appendNumber_3 x 11 u (nI 1000000000)) (bX7_typesNumber_3 x 7 r (nI 100000))
  rw [num_hi (m := 100000000) h1 (by omega) (by omega) q1, num_hi (m := 10000000) h1 (by omega) (by omega) q2, num_hi (m := 1000000) h1 (by omega) (by omega) q3, num_hi (m := 100000) h1 (by omega) (by omega) q4]
  refine num_st (n := 6) (n' := 6) h0 (by omega) (by omega) q5 h (fun u r h => ?_)
  refine num_st (n := 5) (n' := 5) h0 (by omega) (by omega) q6 h (fun u r h => ?_)
  refine num_st (n := 4) (n' := 4) h0 (by omega) (by omega) q7 h (fun u r h => ?_)
  refine num_st (n := 3) (n' := 3) h0 (by omega) (by omega) q8 h (fun u r h => ?_)
  refine num_st (n := 2) (n' := 2) h0 (by omega) (by omega) q9 h (fun u r h => ?_)
  exact num_end (n := 0) (n' := 1) h0 h
theorem isB_p {r : Row} {p : Nat} (hr : Cn r) (hp : p < 2 ^ 31) : sX7_isBridge r (nI p) = 0 ↔ nn (r 5) ≤ p := by
  have c := in_cnt (x := nI p) hr.2.1
  rw [nI_toInt hp] at c
  have d := nn_toInt hr.2.1.1
  rw [← Decidable.not_iff_not]
  exact c.trans ⟨fun q => by omega, fun q => by omega⟩
theorem note_past {w r : Row} {ct : Nat} (hr : Cn r) (h : Rel w r) : ∀ (n : Nat) (u : Row) (p : Nat), nn (r 5) ≤ p → p ≤ 12 → bX6_appendNote_62 w ct n u p = u := by
  intro n
  induction n with
  | zero => intro u p _ _; rfl
  | succ n ih =>
    intro u p hp hp2
    rw [bX6_appendNote_62]
    by_cases c : 12 ≤ nI p
    · rw [if_pos c]
    · rw [if_neg c, bridgeOf_E hr h, if_pos ((isB_p hr (by omega)).mpr hp), oe_none rfl]
      have := lit_lt (n := 12) c (by omega) (by omega)
      exact ih u (p + 1) (by omega) (by omega)
theorem note_loop {w rw_ : Row} {x : Int32} {ct : Nat} {u0 r0 : Row} (hI : Inv rw_) (h : Rel w rw_) (hct : ct < 8) : ∀ (n : Nat) (u r : Row) (p : Nat), p ≤ 12 → 12 - p < n → p ≤ nn (rw_ 5) → TT u0 r0 u r →
    TT u0 r0 (bX6_appendNote_62 w ct n u p) (bX7_write_70 rw_ x n r ct p).2 ∧ (bX7_write_70 rw_ x n r ct p).1 = (bX7_write_70 rw_ x n r ct p).2 1 := by
  have hr := hI.1
  have l5 := hr.1.2.1.le
  intro n
  induction n with
  | zero => intro u r p _ h; omega
  | succ n ih =>
    intro u r p hp hn hp5 hT
    have hc := cnt_le (c := rw_ 5) (p := p) hr.1.2.1 (by omega)
    by_cases c : rw_ 5 ≤ nI p
    · have e := hc.mp c
      rw [note_past hr.1 h _ _ _ e hp, bX7_write_70, if_pos c]
      exact ⟨hT, rfl⟩
    · have e : p < nn (rw_ 5) := by
        rcases Nat.lt_or_ge p (nn (rw_ 5)) with k | k
        · exact k
        · exact absurd (hc.mpr k) c
      have np := isB_p (p := p) hr.1 (by omega)
      rw [bX6_appendNote_62, bX7_write_70, if_neg c, if_neg (show ¬ 12 ≤ nI p from nI_ge (a := p) (b := 12) (by omega) (by omega)), bridgeOf_E hr.1 h, if_neg (show ¬ sX7_isBridge rw_ (nI p) = 0 from fun q => by have := np.mp q; omega), oe_some rfl, nn_nI (by omega)]
      have R := hI.2.2.2.2.1 ct p hct (by omega) e
      have b2 := hr.2.2.1 p (by omega)
      have e2 : w (20 + 7 * p + 2) = rw_ (20 + 7 * p + 2) := h.b (by omega) (by omega)
      have el : sX1_lowest w ct p = rw_ (168 + 2 * (12 * ct + p)) := h.g (by omega) (by omega)
      have eh : sX1_highest w ct p = rw_ (168 + 2 * (12 * ct + p) + 1) := h.g (by omega) (by omega)
      have b2b := b2.2.2.2
      have b2a := b2.2.2.1
      have en : (sX1_numbersLeft w ct p).toInt = (rw_ (168 + 2 * (12 * ct + p) + 1)).toInt - (rw_ (168 + 2 * (12 * ct + p))).toInt + 1 := by
        unfold sX1_numbersLeft
        rw [el, eh, Int32.toInt_add, Int32.toInt_sub, show (1 : Int32).toInt = 1 from by decide, Int.bmod_eq_of_le (n := (_ : Int) - _) (by omega) (by omega), Int.bmod_eq_of_le (by omega) (by omega)]
      have full : TT u0 r0 (sX4_appendNumber (sX4_append (sX4_appendNumber (sX4_append (sX4_appendNumber (sX4_append u 59) (nI p)) 58) (sX1_lowest w ct p)) 45) (sX1_highest w ct p)) (sX7_typesNumber (sX7_types (sX7_typesNumber (sX7_types (sX7_typesNumber (sX7_types r 59) (nI p)) 58) (rw_ (168 + 2 * (12 * ct + p)))) 45) (rw_ (168 + 2 * (12 * ct + p) + 1))) := by
        rw [el, eh]
        have tp : (nI p).toInt = (p : Int) := nI_toInt (by omega)
        refine TT_num (by omega) (by omega) (TT_ch (TT_num (by omega) (by omega) (TT_ch (TT_num (by omega) (by omega) (TT_ch hT (by decide) (by decide))) (by decide) (by decide))) (by decide) (by decide))
      have e0 : (0 : Int32).toInt = 0 := by decide
      have ep : (rw_ (20 + 7 * p + 2) - 1).toInt = (rw_ (20 + 7 * p + 2)).toInt - 1 := by
        rw [Int32.toInt_sub, show (1 : Int32).toInt = 1 from by decide, Int.bmod_eq_of_le (by omega) (by omega)]
      by_cases a : 0 < rw_ (168 + 2 * (12 * ct + p))
      · rw [if_pos a]
        rw [Int32.lt_iff_toInt_lt, e0] at a
        rw [if_neg (show ¬ w (20 + 7 * p + 2) ≤ sX1_numbersLeft w ct p by rw [Int32.le_iff_toInt_le, e2, en]; omega)]
        exact ih _ _ (p + 1) (by omega) (by omega) (by omega) full
      · rw [if_neg a]
        rw [Int32.lt_iff_toInt_lt, e0] at a
        by_cases b : rw_ (20 + 7 * p + 2) - 1 ≤ rw_ (168 + 2 * (12 * ct + p) + 1)
        · rw [if_pos b]
          rw [Int32.le_iff_toInt_le, ep] at b
          rw [if_pos (show w (20 + 7 * p + 2) ≤ sX1_numbersLeft w ct p by rw [Int32.le_iff_toInt_le, e2, en]; omega)]
          exact ih _ _ (p + 1) (by omega) (by omega) (by omega) hT
        · rw [if_neg b]
          rw [Int32.le_iff_toInt_le, ep] at b
          rw [if_neg (show ¬ w (20 + 7 * p + 2) ≤ sX1_numbersLeft w ct p by rw [Int32.le_iff_toInt_le, e2, en]; omega)]
          exact ih _ _ (p + 1) (by omega) (by omega) (by omega) full
theorem write_ok {g : GS} {x : Int32} (h : RG g) : (sX6_write g.2.1 (g.1 0) x).1 = (sX7_write g.2.2.2 (g.2.2.1 0) x).1 ∧ RG (upR (upC g (sX6_write g.2.1 (g.1 0) x).2) (sX7_write g.2.2.2 (g.2.2.1 0) x).2) := by
  have hI := h.2.1.1 0 (by omega)
  have hR := h.2.2.1
  have hG := h.2.2.2.2.2
  have hT : Pt g.2.2.2 := h.2.1.2.1
  unfold sX6_write sX7_write
  rw [cartOf_E hI.1.1 hR]
  by_cases a : sX7_isCart (g.2.2.1 0) x = 0
  · rw [if_pos a, if_pos a, oe_none rfl]; exact ⟨rfl, RG_textC h⟩
  rw [if_neg a, if_neg a, oe_some rfl]
  have hC := isCart_of hI.1.1 a
  have t0 : TT g.2.1 g.2.2.2 (sX4_clear g.2.1) (upd g.2.2.2 1 0) := by
    unfold sX4_clear
    refine ⟨⟨by rw [upde, upde], fun k hk => ?_⟩, ⟨?_, ?_⟩, ⟨updn (by omega), updn (by omega), updn (by omega), updn (by omega)⟩, updn (by omega), updn (by omega), updn (by omega)⟩
    · rw [upde] at hk; exact absurd hk (Nat.not_lt_zero _)
    · rw [upde]; exact sm_nI (j := 0) (n := 80) (by omega) (by omega)
    · rw [updn (by omega)]; exact hT.2
  have ec : g.1 0 (104 + 8 * nn x) = g.2.2.1 0 (104 + 8 * nn x) := hR.c0 hC.2.2
  have em : g.1 0 (104 + 8 * nn x + 1) = g.2.2.1 0 (104 + 8 * nn x + 1) := hR.c (f := 1) hC.2.2 (by omega) (by omega)
  have tw_ := hI.2.2.2.2.2.2.2.2.1 (nn x) hC.2.2
  have cb := IM_b (c := nn x) (i := 0) hC.2.2 (by omega) hI.1.1.2.2.le hI.2.2.2.2.2.2.1
  have cb1 : (g.2.2.1 0 (104 + 8 * nn x + 1)).toInt + tl (g.2.2.1 0) 0 ≤ 79992 ∧ 0 ≤ (g.2.2.1 0 (104 + 8 * nn x + 1)).toInt ∧ 0 ≤ tl (g.2.2.1 0) 0 := cb
  have tx : (nI (nn x)).toInt = (nn x : Int) := nI_toInt nn_b
  have hx8 := hC.2.2
  have t1 := tw_.1
  have t2 := tw_.2
  have hd : TT g.2.1 g.2.2.2 (sX4_appendNumber (sX4_append (sX4_appendNumber (sX4_append (sX4_appendNumber (sX4_append (sX4_clear g.2.1) 99) (nI (nn x))) 64) (g.1 0 (104 + 8 * nn x))) 42) (g.1 0 (104 + 8 * nn x + 1))) (sX7_typesNumber (sX7_types (sX7_typesNumber (sX7_types (sX7_typesNumber (sX7_types (upd g.2.2.2 1 0) 99) (nI (nn x))) 64) (g.2.2.1 0 (104 + 8 * nn x))) 42) (g.2.2.1 0 (104 + 8 * nn x + 1))) := by
    rw [ec, em]
    exact TT_num (by omega) (by omega) (TT_ch (TT_num (by omega) (by omega) (TT_ch (TT_num (by omega) (by omega) (TT_ch t0 (by decide) (by decide))) (by decide) (by decide))) (by decide) (by decide))
  have o := note_loop (x := x) (ct := nn x) hI hR hC.2.2 13 _ _ 0 (by omega) (by omega) (by omega) hd
  unfold sX6_appendNote
  obtain ⟨⟨o1, o2, o3, o4⟩, o5⟩ := o
  exact ⟨o1.1.trans o5.symm, RG_text h o3 o4 o2 o1⟩
