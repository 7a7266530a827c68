theorem cartOf_E {w r : Row} {x : Int32} (hr : Cn r) (h : Rel w r) : sX5_cartOf w x = if sX7_isCart r x = 0 then none else some (nn x) := by
  unfold sX5_cartOf
  rw [h.j (show 6 < 11 by omega)]
  have a := isB_iff (a := x) (b := r 6)
  have b : ¬ sX7_isCart r x = 0 ↔ 0 ≤ x.toInt ∧ x.toInt < (r 6).toInt := in_cnt hr.2.2
  by_cases c : sX7_isCart r x = 0
  · rw [if_pos c, if_pos (Decidable.byContradiction fun q => (b.mpr (a.mp q)) c)]
  · rw [if_neg c, if_neg (fun q => (a.mpr (b.mp c)) q)]
theorem bridgeOf_E {w r : Row} {x : Int32} (hr : Cn r) (h : Rel w r) : sX5_bridgeOf w x = if sX7_isBridge r x = 0 then none else some (nn x) := by
  unfold sX5_bridgeOf
  rw [h.j (show 5 < 11 by omega)]
  have a := isB_iff (a := x) (b := r 5)
  have b : ¬ sX7_isBridge r x = 0 ↔ 0 ≤ x.toInt ∧ x.toInt < (r 5).toInt := in_cnt hr.2.1
  by_cases c : sX7_isBridge r x = 0
  · rw [if_pos c, if_pos (Decidable.byContradiction fun q => (b.mpr (a.mp q)) c)]
  · rw [if_neg c, if_neg (fun q => (a.mpr (b.mp c)) q)]
theorem isAt_E {w r : Row} {i c : Nat} (hi : i < 12) (hc : c < 8) (h : Rel w r) : sX0_isAt w i (w (104 + 8 * c)) = sX7_isAt r i (r (104 + 8 * c)) := by
  unfold sX0_isAt sX7_isAt
  rw [h.b (j := 20 + 7 * i) (by omega) (by omega), h.b (j := 20 + 7 * i + 1) (by omega) (by omega), h.c0 hc]
theorem cntL_app {w : Row} {i c : Nat} : ∀ (l : List Nat), cntL w i (l ++ [c]) = cntL w i l + (if w (104 + 8 * c + 2) = nI i then 1 else 0) := by
  intro l
  induction l with
  | nil =>
    show cntL w i [c] = 0 + _
    rw [cntL]
    by_cases e : w (104 + 8 * c + 2) = nI i
    · rw [if_pos e, if_pos e]; rfl
    · rw [if_neg e, if_neg e]; rfl
  | cons x l ih =>
    rw [List.cons_append, cntL, cntL, ih]
    by_cases e : w (104 + 8 * x + 2) = nI i
    · rw [if_pos e, if_pos e]; omega
    · rw [if_neg e, if_neg e]
theorem gsw_cnt {r : Row} {c i i' : Nat} {z : Int32} (hc : c < nn (r 6)) (ha : r (104 + 8 * c + 2) = -6) (hi : i < 12) (hi' : i' < 12) (hI : Inv r) : cntL (gsw r c i z) i' (qs (gsw r c i z)) = cntL r i' (qs r) + (if i' = i then 1 else 0) := by
  have h6 := hI.1.1.2.2.le
  obtain ⟨h8, hcq⟩ := room hc ha hI
  rw [gsw_qs (by omega) h8 hI.1.1, cntL_app]
  have e2 : gsw r c i z (104 + 8 * c + 2) = nI i := (gsw_f h8).1
  have e1 : cntL (gsw r c i z) i' (qs r) = cntL r i' (qs r) := cntL_congr _ (fun x hx => by
    have hne : ¬ x = c := fun e => hcq (by rw [← e]; exact hx)
    have := qs_8 hI.1 x hx
    rw [gsw_o h8 (by omega) (by omega) (by omega) (by omega) (by omega)])
  rw [e1, e2]
  congr 1
  by_cases e : i' = i
  · rw [if_pos e, if_pos (by rw [e])]
  · rw [if_neg e, if_neg (fun q => e ((nI_eq (by omega) (by omega)).mp q).symm)]
theorem wait_rel {w r : Row} {c i : Nat} {z : Int32} (hc : c < nn (r 6)) (ha : r (104 + 8 * c + 2) = -6) (hi : i < nn (r 5)) (hI : Inv r) (h : Rel w r) :
    Rel (upd (upd (upd (upd (upd w (12 + nn (w 10)) (nI c)) 10 (w 10 + 1)) (104 + 8 * c + 2) (nI i)) (104 + 8 * c + 3) z) (360 + i) (w (360 + i) + 1)) (gsw r c i z) := by
  have hr := hI.1
  have h6 := hr.1.2.2.le
  have h5 := hr.1.2.1.le
  obtain ⟨h8, hcq⟩ := room hc ha hI
  have cw := h.cn hr.1
  have e10 : w 10 = r 10 := h.j (by omega)
  have n10 := nn_inc hr.1.1 (by omega)
  obtain ⟨f2, f3, f4, f10, fq⟩ := gsw_f (w := r) (c := c) (i := i) (z := z) h8
  have hw4 : r (104 + 8 * c + 4) = 0 := hI.2.2.2.1 c (by omega) ha
  rw [e10]
  have W0 : ∀ j, ¬ j = 10 → ¬ j = 12 + nn (r 10) → ¬ j = 104 + 8 * c + 2 → ¬ j = 104 + 8 * c + 3 → ¬ j = 360 + i → upd (upd (upd (upd (upd w (12 + nn (r 10)) (nI c)) 10 (r 10 + 1)) (104 + 8 * c + 2) (nI i)) (104 + 8 * c + 3) z) (360 + i) (w (360 + i) + 1) j = w j := fun j a b d e f => by rw [updn f, updn e, updn d, updn a, updn b]
  have W10 : upd (upd (upd (upd (upd w (12 + nn (r 10)) (nI c)) 10 (r 10 + 1)) (104 + 8 * c + 2) (nI i)) (104 + 8 * c + 3) z) (360 + i) (w (360 + i) + 1) 10 = r 10 + 1 := by rw [updn (by omega), updn (by omega), updn (by omega), upde]
  have Wq : upd (upd (upd (upd (upd w (12 + nn (r 10)) (nI c)) 10 (r 10 + 1)) (104 + 8 * c + 2) (nI i)) (104 + 8 * c + 3) z) (360 + i) (w (360 + i) + 1) (12 + nn (r 10)) = nI c := by rw [updn (by omega), updn (by omega), updn (by omega), updn (by omega), upde]
  have W2 : upd (upd (upd (upd (upd w (12 + nn (r 10)) (nI c)) 10 (r 10 + 1)) (104 + 8 * c + 2) (nI i)) (104 + 8 * c + 3) z) (360 + i) (w (360 + i) + 1) (104 + 8 * c + 2) = nI i := by rw [updn (by omega), updn (by omega), upde]
  have W3 : upd (upd (upd (upd (upd w (12 + nn (r 10)) (nI c)) 10 (r 10 + 1)) (104 + 8 * c + 2) (nI i)) (104 + 8 * c + 3) z) (360 + i) (w (360 + i) + 1) (104 + 8 * c + 3) = z := by rw [updn (by omega), upde]
  have Wi : upd (upd (upd (upd (upd w (12 + nn (r 10)) (nI c)) 10 (r 10 + 1)) (104 + 8 * c + 2) (nI i)) (104 + 8 * c + 3) z) (360 + i) (w (360 + i) + 1) (360 + i) = w (360 + i) + 1 := upde
  generalize upd (upd (upd (upd (upd w (12 + nn (r 10)) (nI c)) 10 (r 10 + 1)) (104 + 8 * c + 2) (nI i)) (104 + 8 * c + 3) z) (360 + i) (w (360 + i) + 1) = W at *
  have E : ∀ j, ¬ j = 10 → ¬ (12 ≤ j ∧ j < 20) → ¬ j = 104 + 8 * c + 2 → ¬ j = 104 + 8 * c + 3 → ¬ j = 104 + 8 * c + 4 → gsw r c i z j = r j := fun j h1 h2 h3 h4 h5 => gsw_o h8 h1 h2 h3 h4 h5
  have e6 : gsw r c i z 6 = r 6 := E 6 (by omega) (by omega) (by omega) (by omega) (by omega)
  have qW : qs W = qs w ++ [c] := by
    unfold qs
    rw [W10, n10.1, e10, ql_snoc, Nat.zero_add, Wq, nn_nI (by omega)]
    congr 1
    exact ql_congr _ _ (fun k h1 h2 => W0 _ (by omega) (by omega) (by omega) (by omega) (by omega))
  refine ⟨fun k hk => ?_, ?_, fun k hk => ?_, fun k p p' => ?_, fun x f hx hf hxf => ?_, fun k p p' => ?_, fun i' hi' => ?_, fun x hx hn => ?_⟩
  · by_cases e : k = 10
    · subst e; rw [W10, f10]
    · rw [W0 k e (by omega) (by omega) (by omega) (by omega), E k e (by omega) (by omega) (by omega) (by omega)]; exact h.j hk
  · rw [qW, gsw_qs (by omega) h8 hr.1, h.q]
  · by_cases e : k = nn (r 10)
    · rw [e, Wq]; exact sm_nI (by omega) (by omega)
    · rw [W0 _ (by omega) (by omega) (by omega) (by omega) (by omega)]; exact h.2.2.1 k hk
  · rw [W0 _ (by omega) (by omega) (by omega) (by omega) (by omega), E _ (by omega) (by omega) (by omega) (by omega) (by omega)]; exact h.b p p'
  · rw [e6] at hxf
    by_cases e : x = c ∧ (f = 2 ∨ f = 3 ∨ f = 4)
    · obtain ⟨rfl, e⟩ := e
      rcases e with rfl | rfl | rfl
      · rw [W2, f2]
      · rw [W3, f3]
      · rw [W0 _ (by omega) (by omega) (by omega) (by omega) (by omega), f4, h.c hx (by omega) (by omega)]; exact hw4
    · rw [W0 _ (by omega) (by omega) (by omega) (by omega) (by omega), E _ (by omega) (by omega) (by omega) (by omega) (by omega)]; exact h.c hx hf hxf
  · rw [W0 _ (by omega) (by omega) (by omega) (by omega) (by omega), E _ (by omega) (by omega) (by omega) (by omega) (by omega)]; exact h.g p p'
  · rw [gsw_cnt hc ha (by omega) hi' hI]
    have hw := h.2.2.2.2.2.2.1
    by_cases e : i' = i
    · subst e; rw [Wi, hw i' hi', if_pos rfl, nI_1]
    · rw [W0 _ (by omega) (by omega) (by omega) (by omega) (by omega), hw i' hi', if_neg e]; rfl
  · rw [e6] at hn
    rw [W0 _ (by omega) (by omega) (by omega) (by omega) (by omega), W0 _ (by omega) (by omega) (by omega) (by omega) (by omega)]; exact h.2.2.2.2.2.2.2 x hx hn
theorem guess_rel {w r : Row} {x y z : Int32} (hI : Inv r) (h : Rel w r) : (¬ sX7_guessError r x y z = 0 → sX5_comeToWait w x y z = (sX7_guessError r x y z, w) ∧ sX7_guessError r x y z < 0) ∧
    (sX7_guessError r x y z = 0 → (sX5_comeToWait w x y z).1 = (sX7_guesses r (nn x) (nn y) z).1 ∧ 0 ≤ (sX5_comeToWait w x y z).1 ∧ Rel (sX5_comeToWait w x y z).2 (sX7_guesses r (nn x) (nn y) z).2) := by
  have hr := hI.1
  have h6 := hr.1.2.2.le
  have h5 := hr.1.2.1.le
  unfold sX5_comeToWait sX7_guessError
  rw [cartOf_E hr.1 h, bridgeOf_E hr.1 h]
  by_cases t1 : sX7_isCart r x = 0
  · rw [if_pos t1, if_pos t1, oe_none rfl]
    refine ⟨fun _ => ⟨?_, by decide⟩, fun q => absurd q (by decide)⟩
    by_cases t2 : sX7_isBridge r y = 0
    · rw [if_pos t2, oe_none rfl]
    · rw [if_neg t2, oe_some rfl]
  rw [if_neg t1, if_neg t1, oe_some rfl]
  by_cases t2 : sX7_isBridge r y = 0
  · rw [if_pos t2, if_pos t2, oe_none rfl]
    exact ⟨fun _ => ⟨rfl, by decide⟩, fun q => absurd q (by decide)⟩
  rw [if_neg t2, if_neg t2, oe_some rfl]
  have hC := isCart_of hr.1 t1
  have hB := isBridge_of hr.1 t2
  have es : w (20 + 7 * nn y + 2) = r (20 + 7 * nn y + 2) := h.b (by omega) (by omega)
  have hN : sX6_isBelow z (w (20 + 7 * nn y + 2)) = 0 ↔ sX7_isNumber r (nn y) z = 0 := by
    rw [← Decidable.not_iff_not, isB_iff, es]
    exact (in_cnt (hr.2.2.1 _ hB.2.2).2.2).symm
  by_cases t3 : sX7_isNumber r (nn y) z = 0
  · rw [if_pos t3, if_pos (hN.mpr t3)]
    exact ⟨fun _ => ⟨rfl, by decide⟩, fun q => absurd q (by decide)⟩
  rw [if_neg t3, if_neg (fun q => t3 (hN.mp q))]
  have ea : w (104 + 8 * nn x + 2) = r (104 + 8 * nn x + 2) := h.c (f := 2) hC.2.2 (by omega) (fun _ => hC.2.1)
  by_cases t4 : r (104 + 8 * nn x + 2) = -6
  · rw [if_pos t4, if_pos (isW.mpr (ea.trans t4)), isAt_E hB.2.2 hC.2.2 h]
    by_cases t5 : sX7_isAt r (nn y) (r (104 + 8 * nn x)) = 0
    · rw [if_pos t5, if_pos t5]
      exact ⟨fun _ => ⟨rfl, by decide⟩, fun q => absurd q (by decide)⟩
    rw [if_neg t5, if_neg t5]
    refine ⟨fun q => absurd rfl q, fun _ => ?_⟩
    obtain ⟨h8, hcq⟩ := room hC.2.1 t4 hI
    have e10 : w 10 = r 10 := h.j (by omega)
    have l8 : w 10 < 8 := by
      rw [e10, Int32.lt_iff_toInt_lt, i8t]
      have := nn_toInt hr.1.1.1
      omega
    rw [if_pos l8, guesses_eq h8]
    have A : upd (upd (upd (upd (upd w (12 + (nn (w 10))) x) (10) (((upd w (12 + (nn (w 10))) x) 10) + 1)) (104 + 8 * nn x + 2) y) (104 + 8 * nn x + 3) z) (360 + nn y) (((upd (upd (upd (upd w (12 + (nn (w 10))) x) (10) (((upd w (12 + (nn (w 10))) x) 10) + 1)) (104 + 8 * nn x + 2) y) (104 + 8 * nn x + 3) z) (360 + nn y)) + 1) =
        upd (upd (upd (upd (upd w (12 + nn (w 10)) (nI (nn x))) 10 (w 10 + 1)) (104 + 8 * nn x + 2) (nI (nn y))) (104 + 8 * nn x + 3) z) (360 + nn y) (w (360 + nn y) + 1) := by
      have hn8 : nn (w 10) < 8 := by rw [e10]; exact h8
      rw [updn (show ¬ 10 = 12 + nn (w 10) by omega), updn (show ¬ 360 + nn y = 104 + 8 * nn x + 3 by omega), updn (show ¬ 360 + nn y = 104 + 8 * nn x + 2 by omega), updn (show ¬ 360 + nn y = 10 by omega), updn (show ¬ 360 + nn y = 12 + nn (w 10) by omega), ← hC.1, ← hB.1]
    rw [A]
    have K := wait_rel (z := z) hC.2.1 t4 hB.2.1 hI h
    have hm : sX7_many (gsw r (nn x) (nn y) z) (nn y) = upd (upd (upd (upd (upd w (12 + nn (w 10)) (nI (nn x))) 10 (w 10 + 1)) (104 + 8 * nn x + 2) (nI (nn y))) (104 + 8 * nn x + 3) z) (360 + nn y) (w (360 + nn y) + 1) (360 + nn y) := by
      have I2 := Inv_gsw (z := z) hC.2.1 t4 hB.2.1 (by
        have a := gE0 hr (show sX7_guessError r x y z = 0 from by unfold sX7_guessError; rw [if_neg t1, if_neg t2, if_neg t3, if_pos t4, if_neg t5])
        have d := (hr.2.2.1 _ hB.2.2).2.2.2
        exact sm_i a.2.2.1.1 (by have := a.2.2.1.2; omega)) hI
      rw [many_L I2.1.1]
      exact (K.2.2.2.2.2.2.1 (nn y) hB.2.2).symm
    refine ⟨hm.symm, ?_, K⟩
    show 0 ≤ upd (upd (upd (upd (upd w (12 + nn (w 10)) (nI (nn x))) 10 (w 10 + 1)) (104 + 8 * nn x + 2) (nI (nn y))) (104 + 8 * nn x + 3) z) (360 + nn y) (w (360 + nn y) + 1) (360 + nn y)
    rw [K.2.2.2.2.2.2.1 (nn y) hB.2.2]
    have := cntL_len (w := gsw r (nn x) (nn y) z) (i := nn y) (qs (gsw r (nn x) (nn y) z))
    rw [gsw_qs hC.2.2 h8 hr.1, List.length_append, qs_len, List.length_singleton] at this
    rw [gsw_qs hC.2.2 h8 hr.1]
    exact nI_pos' (by omega)
  · rw [if_neg t4, if_neg (fun q => t4 (ea.symm.trans (isW.mp q)))]
    exact ⟨fun _ => ⟨rfl, by decide⟩, fun q => absurd q (by decide)⟩
