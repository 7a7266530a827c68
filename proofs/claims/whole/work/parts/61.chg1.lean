/-! the changes, side by side -/
theorem upd_upd {w : Row} {a : Nat} {x y : Int32} : upd (upd w a x) a y = upd w a y := by
  funext j
  by_cases e : j = a
  · rw [e, upde, upde]
  · rw [updn e, updn e, updn e]
theorem drw_3u {w : Row} {i : Nat} {v : Int32} : drw (upd w (20 + 7 * i + 3) v) i = drw w i := by
  unfold drw
  rw [updn (show ¬ 7 = 20 + 7 * i + 3 by omega), updn (show ¬ 20 + 7 * i + 2 = 20 + 7 * i + 3 by omega), upd_comm (show ¬ 20 + 7 * i + 3 = 7 by omega), upd_upd]
theorem drw_5u {w : Row} {i : Nat} {v : Int32} (hi : i < 12) : upd (drw w i) 5 v = drw (upd w 5 v) i := by
  unfold drw
  rw [updn (show ¬ 7 = 5 by omega), updn (show ¬ 20 + 7 * i + 2 = 5 by omega), upd_comm (w := w) (show ¬ 5 = 7 by omega), upd_comm (show ¬ 5 = 20 + 7 * i + 3 by omega)]
  generalize upd (upd w 7 (sd (w 7))) (20 + 7 * i + 3) (rd (sd (w 7)) (w (20 + 7 * i + 2))) = W
  funext j
  unfold rng
  rw [updn (show ¬ 20 + 7 * i + 2 = 5 by omega)]
  by_cases e : j = 5
  · subst e
    rw [upde, if_neg (by omega), upde]
  · rw [updn e]
    by_cases c : 168 + 24 * 0 ≤ j ∧ j < 360 ∧ ((j - 168) / 2) % 12 = i
    · rw [if_pos c, if_pos c]
    · rw [if_neg c, if_neg c, updn e]
theorem i8t : (8 : Int32).toInt = 8 := by decide
theorem town_iff {x : Int32} : sX6_isBelow x 8 = 0 ↔ sX7_isTown x = 0 := by
  rw [← Decidable.not_iff_not]
  have b := in_32 (x := x) (y := 0) (z := 7)
  have e0 : (0 : Int64).toInt = 0 := by decide
  have e7 : (7 : Int64).toInt = 7 := by decide
  rw [e0, e7] at b
  have a := isB_iff (a := x) (b := 8)
  rw [i8t] at a
  unfold sX7_isTown
  rw [a, b]
  omega
theorem in_lt {x : Int32} {lo hi : Int64} {a b : Int32} (ha : a.toInt = lo.toInt) (hb : b.toInt = hi.toInt) : sX7_in x.toInt64 lo hi = 0 ↔ x < a ∨ ¬ x ≤ b := by
  rw [← Decidable.not_iff_not, in_32, Int32.lt_iff_toInt_lt, Int32.le_iff_toInt_le]
  omega
theorem addBridge_rel {w r : Row} {x y z : Int32} (hI : Inv r) (h : Rel w r) : (¬ sX7_bridgeError r x y z = 0 → sX5_addBridge w x y z = (sX7_bridgeError r x y z, w) ∧ sX7_bridgeError r x y z < 0) ∧
    (sX7_bridgeError r x y z = 0 → (sX5_addBridge w x y z).1 = (sX7_builds r x y z).1 ∧ 0 ≤ (sX5_addBridge w x y z).1 ∧ Rel (sX5_addBridge w x y z).2 (sX7_builds r x y z).2) := by
  have hr := hI.1
  have h5 := hr.1.2.1.le
  have e5 : w 5 = r 5 := h.j (by omega)
  have hz := in_lt (x := z) (lo := 2) (hi := 1000) (a := 2) (b := 1000) (by decide) (by decide)
  have h12 : r 5 < 12 ↔ ¬ r 5 = 12 := by
    have e12 : (12 : Int32).toInt = 12 := by decide
    rw [Int32.lt_iff_toInt_lt, ← Int32.toInt_inj, e12]
    have := hr.1.2.1.2
    omega
  unfold sX5_addBridge sX7_bridgeError
  by_cases t1 : sX7_isTown x = 0
  · rw [if_pos t1, if_pos (town_iff.mpr t1)]
    exact ⟨fun _ => ⟨rfl, by decide⟩, fun q => absurd q (by decide)⟩
  rw [if_neg t1, if_neg (fun q => t1 (town_iff.mp q))]
  by_cases t2 : sX7_isTown y = 0
  · rw [if_pos t2, if_pos (town_iff.mpr t2)]
    exact ⟨fun _ => ⟨rfl, by decide⟩, fun q => absurd q (by decide)⟩
  rw [if_neg t2, if_neg (fun q => t2 (town_iff.mp q))]
  by_cases t3 : x = y
  · rw [if_pos t3, if_pos t3]
    exact ⟨fun _ => ⟨rfl, by decide⟩, fun q => absurd q (by decide)⟩
  rw [if_neg t3, if_neg t3]
  by_cases t4 : sX7_in z.toInt64 2 1000 = 0
  · rw [if_pos t4]
    refine ⟨fun _ => ⟨?_, by decide⟩, fun q => absurd q (by decide)⟩
    rcases hz.mp t4 with q | q
    · rw [if_pos q]
    · by_cases q2 : z < 2
      · rw [if_pos q2]
      · rw [if_neg q2, if_neg q]
  rw [if_neg t4, if_neg (fun q => t4 (hz.mpr (Or.inl q))), if_pos (Decidable.byContradiction fun q => t4 (hz.mpr (Or.inr q))), e5]
  by_cases t5 : r 5 = 12
  · rw [if_pos t5, if_neg (fun q => (h12.mp q) t5)]
    exact ⟨fun _ => ⟨rfl, by decide⟩, fun q => absurd q (by decide)⟩
  rw [if_neg t5, if_pos (h12.mpr t5)]
  refine ⟨fun q => absurd rfl q, fun _ => ?_⟩
  have hq : nn (r 5) < 12 := by
    rcases Nat.lt_or_ge (nn (r 5)) 12 with q | q
    · exact q
    · exact absurd (hr.1.2.1.eq.trans (by rw [show nn (r 5) = 12 from by omega]; rfl)) t5
  rw [builds_eq]
  have n5 := nn_inc hr.1.2.1 (by omega)
  have hz2 := hI.2.2.1.1 (nn (r 5)) hq (Nat.le_refl _)
  have hz4 := (in_32 (x := z) (y := 2) (z := 1000)).mp t4
  generalize hq0 : nn (r 5) = q at *
  have eA : bld r q x y z = upd (upd (upd (upd (upd r (20 + 7 * q) x) (20 + 7 * q + 1) y) (20 + 7 * q + 2) z) 5 (r 5 + 1)) (20 + 7 * q + 3) 0 := by
    unfold bld
    have g4 : (upd (upd (upd (upd r (20 + 7 * q + 0) x) (20 + 7 * q + 1) y) (20 + 7 * q + 2) z) (20 + 7 * q + 3) 0) (20 + 7 * q + 4) = 0 := by rw [updn (by omega), updn (by omega), updn (by omega), updn (by omega)]; exact hz2.1
    have g5 : (upd (upd (upd (upd r (20 + 7 * q + 0) x) (20 + 7 * q + 1) y) (20 + 7 * q + 2) z) (20 + 7 * q + 3) 0) (20 + 7 * q + 5) = 0 := by rw [updn (by omega), updn (by omega), updn (by omega), updn (by omega)]; exact hz2.2.1
    have g6 : (upd (upd (upd (upd r (20 + 7 * q + 0) x) (20 + 7 * q + 1) y) (20 + 7 * q + 2) z) (20 + 7 * q + 3) 0) (20 + 7 * q + 6) = 0 := by rw [updn (by omega), updn (by omega), updn (by omega), updn (by omega)]; exact hz2.2.2
    have g7 : (upd (upd (upd (upd r (20 + 7 * q + 0) x) (20 + 7 * q + 1) y) (20 + 7 * q + 2) z) (20 + 7 * q + 3) 0) 5 = r 5 := by rw [updn (by omega), updn (by omega), updn (by omega), updn (by omega)]
    rw [upd_id g4, upd_id g5, upd_id g6, g7, upd_comm (show ¬ 20 + 7 * q + 3 = 5 by omega)]
    rfl
  show nI q = nI q ∧ 0 ≤ nI q ∧ Rel (upd (sX5_drawRiddle (upd (upd (upd w (20 + 7 * q) x) (20 + 7 * q + 1) y) (20 + 7 * q + 2) z) q) (5) (((sX5_drawRiddle (upd (upd (upd w (20 + 7 * q) x) (20 + 7 * q + 1) y) (20 + 7 * q + 2) z) q) 5) + 1)) (sX7_draws (bld r q x y z) q)
  refine ⟨rfl, nI_pos' (by omega), ?_⟩
  rw [dr7 hq, eA, drw_3u, dr5 hq (by
    rw [upde, Int32.le_iff_toInt_le, show (0 : Int32).toInt = 0 from by decide]
    have := hz4.1
    have e2 : (2 : Int64).toInt = 2 := by decide
    omega), drw_5u hq, drw_o hq (by omega) (by omega) (by omega), updn (show ¬ 5 = 20 + 7 * q + 2 by omega), updn (show ¬ 5 = 20 + 7 * q + 1 by omega), updn (show ¬ 5 = 20 + 7 * q by omega), e5]
  have r1 : Cn (upd r (20 + 7 * q) x) := Cn_upd (by omega) (by omega) (by omega) hr.1
  have r2 : Cn (upd (upd r (20 + 7 * q) x) (20 + 7 * q + 1) y) := Cn_upd (by omega) (by omega) (by omega) r1
  have r3 : Cn (upd (upd (upd r (20 + 7 * q) x) (20 + 7 * q + 1) y) (20 + 7 * q + 2) z) := Cn_upd (by omega) (by omega) (by omega) r2
  have r4 : Cn (upd (upd (upd (upd r (20 + 7 * q) x) (20 + 7 * q + 1) y) (20 + 7 * q + 2) z) 5 (r 5 + 1)) := ⟨by rw [updn (by omega)]; exact r3.1, by rw [upde]; exact sm_lt n5.2 (by rw [n5.1]; omega), by rw [updn (by omega)]; exact r3.2.2⟩
  have k1 := Rel_upd (j := 20 + 7 * q) (v := x) (by omega) (by omega) (by omega) (fun c hc => by omega) (by omega) hr.1 h
  have k2 := Rel_upd (j := 20 + 7 * q + 1) (v := y) (by omega) (by omega) (by omega) (fun c hc => by omega) (by omega) r1 k1
  have k3 := Rel_upd (j := 20 + 7 * q + 2) (v := z) (by omega) (by omega) (by omega) (fun c hc => by omega) (by omega) r2 k2
  have k4 := Rel_upd (j := 5) (v := r 5 + 1) (by omega) (by omega) (by omega) (fun c hc => by omega) (by omega) r3 k3
  exact Rel_drw hq r4 k4
theorem addCart_rel {w r : Row} {x y : Int32} (hI : Inv r) (h : Rel w r) : (¬ sX7_cartError r x y = 0 → sX5_addCart w x y = (sX7_cartError r x y, w) ∧ sX7_cartError r x y < 0) ∧
    (sX7_cartError r x y = 0 → (sX5_addCart w x y).1 = (sX7_comes r x y).1 ∧ 0 ≤ (sX5_addCart w x y).1 ∧ Rel (sX5_addCart w x y).2 (sX7_comes r x y).2) := by
  have hr := hI.1
  have h6 := hr.1.2.2.le
  have e6 : w 6 = r 6 := h.j (by omega)
  have hy := in_lt (x := y) (lo := 0) (hi := 9999) (a := 0) (b := 9999) (by decide) (by decide)
  have h8 : r 6 < 8 ↔ ¬ r 6 = 8 := by
    rw [Int32.lt_iff_toInt_lt, ← Int32.toInt_inj, i8t]
    have := hr.1.2.2.2
    omega
  unfold sX5_addCart sX7_cartError
  by_cases t1 : sX7_isTown x = 0
  · rw [if_pos t1, if_pos (town_iff.mpr t1)]
    exact ⟨fun _ => ⟨rfl, by decide⟩, fun q => absurd q (by decide)⟩
  rw [if_neg t1, if_neg (fun q => t1 (town_iff.mp q))]
  by_cases t4 : sX7_in y.toInt64 0 9999 = 0
  · rw [if_pos t4]
    refine ⟨fun _ => ⟨?_, by decide⟩, fun q => absurd q (by decide)⟩
    rcases hy.mp t4 with q | q
    · rw [if_pos q]
    · by_cases q2 : y < 0
      · rw [if_pos q2]
      · rw [if_neg q2, if_neg q]
  rw [if_neg t4, if_neg (fun q => t4 (hy.mpr (Or.inl q))), if_pos (Decidable.byContradiction fun q => t4 (hy.mpr (Or.inr q))), e6]
  by_cases t5 : r 6 = 8
  · rw [if_pos t5, if_neg (fun q => (h8.mp q) t5)]
    exact ⟨fun _ => ⟨rfl, by decide⟩, fun q => absurd q (by decide)⟩
  rw [if_neg t5, if_pos (h8.mpr t5)]
  refine ⟨fun q => absurd rfl q, fun _ => ?_⟩
  have hq : nn (r 6) < 8 := by
    rcases Nat.lt_or_ge (nn (r 6)) 8 with q | q
    · exact q
    · exact absurd (hr.1.2.2.eq.trans (by rw [show nn (r 6) = 8 from by omega]; rfl)) t5
  have n6 := nn_inc hr.1.2.2 (by omega)
  rw [comes_eq hq hI]
  have hz2 := hI.2.2.1.2.1 (nn (r 6)) hq (Nat.le_refl _)
  have hw2 := h.2.2.2.2.2.2.2 (nn (r 6)) hq (Nat.le_refl _)
  generalize hq0 : nn (r 6) = q at *
  have e8 : w 8 = r 8 := h.j (by omega)
  have A : upd (upd (upd (upd w (104 + 8 * q) x) (104 + 8 * q + 1) y) (8) (((upd (upd w (104 + 8 * q) x) (104 + 8 * q + 1) y) 8) + y)) (6) (((upd (upd (upd w (104 + 8 * q) x) (104 + 8 * q + 1) y) (8) (((upd (upd w (104 + 8 * q) x) (104 + 8 * q + 1) y) 8) + y)) 6) + 1) = upd (upd (upd (upd w (104 + 8 * q) x) (104 + 8 * q + 1) y) 8 (r 8 + y)) 6 (r 6 + 1) := by
    rw [updn (show ¬ 8 = 104 + 8 * q + 1 by omega), updn (show ¬ 8 = 104 + 8 * q by omega), updn (show ¬ 6 = 8 by omega), updn (show ¬ 6 = 104 + 8 * q + 1 by omega), updn (show ¬ 6 = 104 + 8 * q by omega), e8, e6]
  rw [A]
  refine ⟨rfl, nI_pos' (by omega), ?_⟩
  show Rel (upd (upd (upd (upd w (104 + 8 * q) x) (104 + 8 * q + 1) y) 8 (r 8 + y)) 6 (r 6 + 1)) (upd (upd (cmw r q x y) 6 (r 6 + 1)) 8 (r 8 + y))
  obtain ⟨f0, f1, f2, f3, f4, f5, f6, f7⟩ := cmw_f (w := r) (q := q) (x := x) (y := y)
  have TR : ∀ j, ¬ j = 6 → ¬ j = 8 → upd (upd (cmw r q x y) 6 (r 6 + 1)) 8 (r 8 + y) j = cmw r q x y j := fun j h1 h2 => by rw [updn h2, updn h1]
  have TW : ∀ j, ¬ j = 6 → ¬ j = 8 → ¬ j = 104 + 8 * q → ¬ j = 104 + 8 * q + 1 → upd (upd (upd (upd w (104 + 8 * q) x) (104 + 8 * q + 1) y) 8 (r 8 + y)) 6 (r 6 + 1) j = w j := fun j h1 h2 h3 h4 => by rw [updn h1, updn h2, updn h4, updn h3]
  have w0 : upd (upd (upd (upd w (104 + 8 * q) x) (104 + 8 * q + 1) y) 8 (r 8 + y)) 6 (r 6 + 1) (104 + 8 * q) = x := by rw [updn (by omega), updn (by omega), updn (by omega), upde]
  have w1 : upd (upd (upd (upd w (104 + 8 * q) x) (104 + 8 * q + 1) y) 8 (r 8 + y)) 6 (r 6 + 1) (104 + 8 * q + 1) = y := by rw [updn (by omega), updn (by omega), upde]
  have w6 : upd (upd (upd (upd w (104 + 8 * q) x) (104 + 8 * q + 1) y) 8 (r 8 + y)) 6 (r 6 + 1) 6 = r 6 + 1 := upde
  have w8 : upd (upd (upd (upd w (104 + 8 * q) x) (104 + 8 * q + 1) y) 8 (r 8 + y)) 6 (r 6 + 1) 8 = r 8 + y := by rw [updn (by omega), upde]
  have R6 : upd (upd (cmw r q x y) 6 (r 6 + 1)) 8 (r 8 + y) 6 = r 6 + 1 := by rw [updn (by omega), upde]
  have R8 : upd (upd (cmw r q x y) 6 (r 6 + 1)) 8 (r 8 + y) 8 = r 8 + y := upde
  generalize upd (upd (upd (upd w (104 + 8 * q) x) (104 + 8 * q + 1) y) 8 (r 8 + y)) 6 (r 6 + 1) = W at *
  generalize upd (upd (cmw r q x y) 6 (r 6 + 1)) 8 (r 8 + y) = R at *
  have ER : ∀ j, ¬ j = 6 → ¬ j = 8 → (∀ f, f < 8 → ¬ j = 104 + 8 * q + f) → R j = r j := fun j h1 h2 h3 => by rw [TR j h1 h2, cmw_o h3]
  have eqR : qs R = qs r := qs_congr (ER 10 (by omega) (by omega) (fun f hf => by omega)) (fun k hk => ER _ (by omega) (by omega) (fun f hf => by omega)) hr.1
  have eqW : qs W = qs w := qs_congr (TW 10 (by omega) (by omega) (by omega) (by omega)) (fun k hk => TW _ (by omega) (by omega) (by omega) (by omega)) (h.cn hr.1)
  refine ⟨fun k hk => ?_, ?_, fun k hk => ?_, fun k p p' => ?_, fun c f hc hf hcf => ?_, fun k p p' => ?_, fun i hi => ?_, fun c hc hn => ?_⟩
  · by_cases k6 : k = 6
    · subst k6; rw [w6, R6]
    by_cases k8 : k = 8
    · subst k8; rw [w8, R8]
    rw [TW k k6 k8 (by omega) (by omega), ER k k6 k8 (fun f hf => by omega)]; exact h.j hk
  · rw [eqR, eqW]; exact h.q
  · rw [TW _ (by omega) (by omega) (by omega) (by omega)]; exact h.2.2.1 k hk
  · rw [TW _ (by omega) (by omega) (by omega) (by omega), ER _ (by omega) (by omega) (fun f hf => by omega)]; exact h.b p p'
  · by_cases e : c = q
    · subst e
      rw [TR _ (by omega) (by omega)]
      rcases (show f = 0 ∨ f = 1 ∨ f = 2 ∨ f = 3 ∨ f = 4 ∨ f = 5 ∨ f = 6 ∨ f = 7 by omega) with rfl | rfl | rfl | rfl | rfl | rfl | rfl | rfl
      · exact w0.trans f0.symm
      · exact w1.trans f1.symm
      · rw [TW _ (by omega) (by omega) (by omega) (by omega), f2]; exact hw2.1
      · rw [TW _ (by omega) (by omega) (by omega) (by omega), f3]; exact hw2.2
      · rw [TW _ (by omega) (by omega) (by omega) (by omega), f4, h.c hc hf (by omega)]; exact hz2.2.1
      · rw [TW _ (by omega) (by omega) (by omega) (by omega), f5, h.c hc hf (by omega)]; exact hz2.2.2.1
      · rw [TW _ (by omega) (by omega) (by omega) (by omega), f6, h.c hc hf (by omega)]; exact hz2.2.2.2.1
      · rw [TW _ (by omega) (by omega) (by omega) (by omega), f7, h.c hc hf (by omega)]; exact hz2.2.2.2.2
    · rw [R6, n6.1] at hcf
      rw [TW _ (by omega) (by omega) (by omega) (by omega), ER _ (by omega) (by omega) (fun f hf => by omega)]
      exact h.c hc hf (fun q' => by have := hcf q'; omega)
  · rw [TW _ (by omega) (by omega) (by omega) (by omega), ER _ (by omega) (by omega) (fun f hf => by omega)]; exact h.g p p'
  · rw [eqR, TW _ (by omega) (by omega) (by omega) (by omega), h.2.2.2.2.2.2.1 i hi]
    congr 1
    exact cntL_congr _ (fun c hc => by
      have := (hI.2.1.2.1 c hc).1
      rw [ER _ (by omega) (by omega) (fun f hf => by omega)])
  · rw [R6, n6.1] at hn
    rw [TW _ (by omega) (by omega) (by omega) (by omega), TW _ (by omega) (by omega) (by omega) (by omega)]
    exact h.2.2.2.2.2.2.2 c hc (by omega)
