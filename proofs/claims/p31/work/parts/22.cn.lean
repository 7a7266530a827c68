def b01 (v : Int32) : Prop := v = 0 ∨ v = 1
theorem Pd_i2 {β : Type} {c : Prop} {i : Decidable c} {a b : β × Row} (h1 : Pd a.2) (h2 : Pd b.2) : Pd (@ite _ c i a b).2 := by cases i <;> assumption
theorem Pd_iv {c : Prop} {i : Decidable c} {a b : Row} (h1 : Pd a) (h2 : Pd b) : Pd (@ite _ c i a b) := by cases i <;> assumption
theorem Pd_p2 {β : Type} {v : β} {w : Row} (h : Pd w) : Pd (v, w).2 := h
theorem b01.nar {v : Int32} (h : b01 v) : narrow .boolean (.int v) = .int v := by rcases h with h | h <;> (rw [h]; rfl)
theorem Cn_i2 {β : Type} {c : Prop} {i : Decidable c} {a b : β × Row} (h1 : Cn a.2) (h2 : Cn b.2) : Cn (@ite _ c i a b).2 := by cases i <;> assumption
theorem Cn_iv {c : Prop} {i : Decidable c} {a b : Row} (h1 : Cn a) (h2 : Cn b) : Cn (@ite _ c i a b) := by cases i <;> assumption
theorem Cn_p2 {β : Type} {v : β} {w : Row} (h : Cn w) : Cn (v, w).2 := h
theorem Cn_inc5 {w w' : Row} {v : Int32} (h : Cn w') (h0 : Cn w) (e : w' 5 = w 5) (hl : w 5 < 12) (hv : v = w' 5 + 1) : Cn (upd w' 5 v) := by
  have hq := nn_lt_lit (n := 12) hl h0.2.1 (by omega)
  have e2 : w 5 + 1 = nI (nn (w 5) + 1) := by rw [← nI_1, ← (show w 5 = nI (nn (w 5)) from h0.2.1.eq)]
  refine ⟨?_, ?_, ?_⟩
  · rw [show upd w' 5 v 10 = w' 10 from rfl]; exact h.1
  · rw [show upd w' 5 v 5 = v from rfl, hv, e, e2]; exact sm_nI (by omega) (by omega)
  · rw [show upd w' 5 v 6 = w' 6 from rfl]; exact h.2.2
theorem Cn_inc6 {w w' : Row} {v : Int32} (h : Cn w') (h0 : Cn w) (e : w' 6 = w 6) (hl : w 6 < 8) (hv : v = w' 6 + 1) : Cn (upd w' 6 v) := by
  have hq := nn_lt_lit (n := 8) hl h0.2.2 (by omega)
  have e2 : w 6 + 1 = nI (nn (w 6) + 1) := by rw [← nI_1, ← (show w 6 = nI (nn (w 6)) from h0.2.2.eq)]
  refine ⟨?_, ?_, ?_⟩
  · rw [show upd w' 6 v 10 = w' 10 from rfl]; exact h.1
  · rw [show upd w' 6 v 5 = w' 5 from rfl]; exact h.2.1
  · rw [show upd w' 6 v 6 = v from rfl, hv, e, e2]; exact sm_nI (by omega) (by omega)
theorem Cn_inc10 {w w' : Row} {v : Int32} (h : Cn w') (h0 : Cn w) (e : w' 10 = w 10) (hl : w 10 < 8) (hv : v = w' 10 + 1) : Cn (upd w' 10 v) := by
  have hq := nn_lt_lit (n := 8) hl h0.1 (by omega)
  have e2 : w 10 + 1 = nI (nn (w 10) + 1) := by rw [← nI_1, ← (show w 10 = nI (nn (w 10)) from h0.1.eq)]
  refine ⟨?_, ?_, ?_⟩
  · rw [show upd w' 10 v 10 = v from rfl, hv, e, e2]; exact sm_nI (by omega) (by omega)
  · rw [show upd w' 10 v 5 = w' 5 from rfl]; exact h.2.1
  · rw [show upd w' 10 v 6 = w' 6 from rfl]; exact h.2.2
/-- the counts of bridges and carts are left as they are -/
def K56 (w w' : Row) : Prop := w' 5 = w 5 ∧ w' 6 = w 6
theorem K56.upd {w w' : Row} {j : Nat} {v : Int32} (h5 : ¬ j = 5) (h6 : ¬ j = 6) (h : K56 w w') : K56 w (upd w' j v) := ⟨(if_neg (fun q => h5 q.symm)).trans h.1, (if_neg (fun q => h6 q.symm)).trans h.2⟩
theorem K56.rf {w : Row} : K56 w w := ⟨rfl, rfl⟩
theorem K56_draw {w : Row} {i : Nat} (hi : i < 12) : K56 w (sX5_drawRiddle w i) := by
  have key : ∀ (n : Nat) (w0 w : Row) (p : Nat), p ≤ 8 → K56 w0 w → K56 w0 (bX5_drawRiddle_29 i n w p) := by
    intro n
    induction n with
    | zero => intro w0 w p _ h; exact h
    | succ n ih =>
      intro w0 w p hp h
      rw [bX5_drawRiddle_29]
      by_cases h1 : 8 ≤ nI p
      · rw [if_pos h1]; exact h
      · rw [if_neg h1]
        have := lit_lt (n := 8) h1 (by omega) (by omega)
        refine ih _ _ _ (by omega) ?_
        unfold sX1_forget
        exact (h.upd (by omega) (by omega)).upd (by omega) (by omega)
  unfold sX5_drawRiddle
  refine key _ _ _ _ (by omega) ?_
  unfold sX0_takeRiddle
  split <;> exact (K56.rf.upd (by omega) (by omega)).upd (by omega) (by omega)
theorem Cn_j2 {β : Type} {c : Prop} {i : Decidable c} {a b : β × Row} (h1 : c → Cn a.2) (h2 : ¬ c → Cn b.2) : Cn (@ite _ c i a b).2 := by
  cases i with
  | isTrue h => exact h1 h
  | isFalse h => exact h2 h
theorem Cn_oe {β : Type} {o : Option Nat} {a : β × Row} {f : Nat → β × Row} (h1 : Cn a.2) (h2 : ∀ q, o = some q → Cn (f q).2) : Cn (oe o a f).2 := by
  cases o with
  | none => exact h1
  | some q => exact h2 q rfl
theorem Cn_addBridge {w : Row} {x y z : Int32} (h : Cn w) : Cn (sX5_addBridge w x y z).2 := by
  unfold sX5_addBridge
  refine Cn_i2 (Cn_p2 h) (Cn_i2 (Cn_p2 h) (Cn_i2 (Cn_p2 h) (Cn_i2 (Cn_p2 h) (Cn_i2 (Cn_j2 (fun c => ?_) (fun _ => Cn_p2 h)) (Cn_p2 h)))))
  have hq := nn_lt_lit (n := 12) c h.2.1 (by omega)
  exact Cn_p2 (Cn_inc5 (Cn_drawRiddle hq (Cn_upd (by omega) (by omega) (by omega) (Cn_upd (by omega) (by omega) (by omega) (Cn_upd (by omega) (by omega) (by omega) h)))) h ((K56_draw hq).1.trans (((K56.rf.upd (by omega) (by omega)).upd (by omega) (by omega)).upd (by omega) (by omega)).1) c rfl)
theorem Cn_addCart {w : Row} {x y : Int32} (h : Cn w) : Cn (sX5_addCart w x y).2 := by
  unfold sX5_addCart
  refine Cn_i2 (Cn_p2 h) (Cn_i2 (Cn_p2 h) (Cn_i2 (Cn_j2 (fun c => ?_) (fun _ => Cn_p2 h)) (Cn_p2 h)))
  have hq := nn_lt_lit (n := 8) c h.2.2 (by omega)
  exact Cn_p2 (Cn_inc6 (Cn_upd (by omega) (by omega) (by omega) (Cn_upd (by omega) (by omega) (by omega) (Cn_upd (by omega) (by omega) (by omega) h))) h (((K56.rf.upd (by omega) (by omega)).upd (by omega) (by omega)).upd (by omega) (by omega)).2 c rfl)
theorem Cn_comeToWait {w : Row} {x y z : Int32} (h : Cn w) : Cn (sX5_comeToWait w x y z).2 := by
  unfold sX5_comeToWait
  refine Cn_oe (Cn_oe (Cn_p2 h) (fun _ _ => Cn_p2 h)) (fun q1 h1 => Cn_oe (Cn_p2 h) (fun q3 h3 => ?_))
  have hq1 := (cartOf_some h h1).1
  have hq3 := (bridgeOf_some h h3).1
  refine Cn_i2 (Cn_p2 h) (Cn_i2 (Cn_i2 (Cn_p2 h) (Cn_j2 (fun c => ?_) (fun _ => Cn_p2 h))) (Cn_p2 h))
  have hq := nn_lt_lit (n := 8) c h.1 (by omega)
  exact Cn_p2 (Cn_upd (by omega) (by omega) (by omega) (Cn_upd (by omega) (by omega) (by omega) (Cn_upd (by omega) (by omega) (by omega) (Cn_inc10 (Cn_upd (by omega) (by omega) (by omega) h) h (if_neg (by omega)) c rfl))))
theorem Cn_changeSetting {w : Row} {x v : Int32} (h : Cn w) : Cn (sX5_changeSetting w x v).2 := by
  unfold sX5_changeSetting
  refine Cn_j2 (fun _ => Cn_p2 h) (fun c => ?_)
  have hq := (isB_of c (show sm 4 4 from ⟨by decide, by decide⟩)).2.2
  exact Cn_i2 (Cn_p2 h) (Cn_i2 (Cn_p2 (Cn_upd (by omega) (by omega) (by omega) h)) (Cn_p2 h))
theorem Cn_stopWaiting {w : Row} {x : Int32} (h : Cn w) : Cn (sX5_stopWaiting w x).2 := by
  unfold sX5_stopWaiting
  exact Cn_oe (Cn_p2 h) (fun q1 h1 => Cn_oe (Cn_p2 h) (fun q2 h2 => Cn_p2 (Cn_release (cartOf_some h h1).1 (bridgeOf_some h h2).1 h)))
theorem Cn_buyHint {w : Row} {x y : Int32} (h : Cn w) : Cn (sX5_buyHint w x y).2 := by
  unfold sX5_buyHint
  refine Cn_oe (Cn_oe (Cn_p2 h) (fun _ _ => Cn_p2 h)) (fun q1 h1 => Cn_oe (Cn_p2 h) (fun q3 h3 => ?_))
  have hq1 := (cartOf_some h h1).1
  have hq3 := (bridgeOf_some h h3).1
  exact Cn_i2 (Cn_p2 h) (Cn_i2 (Cn_p2 h) (Cn_i2 (Cn_p2 h) (Cn_p2 (Cn_upd (by omega) (by omega) (by omega) (Cn_halve hq1 hq3 (Cn_pay hq1 hq3 h))))))
theorem Cn_passHours {w : Row} {x : Int32} (h : Cn w) : Cn (sX5_passHours w x).2 := by
  have key : ∀ (n : Nat) (w : Row) (ov : Int32) (p : Nat), Cn w → Cn (bX5_passHours_33 x n w ov p).2 := by
    intro n
    induction n with
    | zero => intro w ov p h; exact Cn_p2 h
    | succ n ih =>
      intro w ov p h
      rw [bX5_passHours_33]
      exact Cn_i2 (Cn_p2 h) (ih _ _ _ (Cn_playHour h))
  unfold sX5_passHours
  exact Cn_i2 (Cn_p2 h) (Cn_i2 (Cn_i2 (key _ _ _ _ h) (Cn_p2 h)) (Cn_p2 h))
