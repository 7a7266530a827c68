/-! the calls that change, side by side -/
theorem hour_sm {r : Row} : sm (sX7_hour r).1 12 := by
  have z : ∀ n : Nat, sm (0 : Int32) n := fun n => ⟨by decide, by show (0 : Int32).toInt ≤ (n : Int); rw [show (0 : Int32).toInt = 0 from by decide]; omega⟩
  have k2 : ∀ (n : Nat) (w : Row) (ov : Int32) (p : Nat), sm ov 12 → sm (bX7_hour_41 n w ov p).1 12 := by
    intro n
    induction n with
    | zero => intro w ov p _; exact z 12
    | succ n ih =>
      intro w ov p h
      rw [bX7_hour_41]
      by_cases c : w (10) ≤ nI p
      · rw [if_pos c]; exact h
      · rw [if_neg c]; exact ih _ _ _ h
  have k1 : ∀ (n : Nat) (w : Row) (ov : Int32) (p : Nat), p + n ≤ 13 → sm ov p → sm (bX7_hour_4 n w ov p).1 12 := by
    intro n
    induction n with
    | zero => intro w ov p _ _; exact z 12
    | succ n ih =>
      intro w ov p hp h
      rw [bX7_hour_4]
      by_cases c : w (5) ≤ nI p
      · rw [if_pos c]; exact k2 _ _ _ _ (sm_w h (by omega))
      · rw [if_neg c]
        by_cases d : (sX7_opens w p).1 = 0
        · rw [if_pos d, show ov + 0 = ov from Int32.add_zero _]; exact ih _ _ _ (by omega) (sm_w h (by omega))
        · rw [if_neg d]; exact ih _ _ _ (by omega) (nn_inc h (by omega)).2
  unfold sX7_hour
  exact k1 13 r 0 0 (by omega) (z 0)
theorem hours_sm {r : Row} {x : Int32} : sm (sX7_hours r x).1 1200 := by
  have z : sm (0 : Int32) 1200 := ⟨by decide, by decide⟩
  have key : ∀ (n : Nat) (w : Row) (ov : Int32) (p : Nat), p + n ≤ 100 → sm ov (12 * p) → sm (bX7_hours_5 x n w ov p).1 1200 := by
    intro n
    induction n with
    | zero => intro w ov p _ _; exact z
    | succ n ih =>
      intro w ov p hp h
      rw [bX7_hours_5]
      by_cases c : x ≤ nI p
      · rw [if_pos c]; exact sm_w h (by omega)
      · rw [if_neg c]
        have a := hour_sm (r := w)
        refine ih _ _ _ (by omega) ?_
        have h0 := h.1
        have h1 := h.2
        have a0 := a.1
        have a1 := a.2
        have e := ta (a := ov) (b := (sX7_hour w).1) (by omega)
        exact ⟨by omega, by omega⟩
  unfold sX7_hours
  exact key 100 r 0 0 (by omega) ⟨by decide, by decide⟩
theorem OKs.t {g : GS} {C R : Int32 × GS} (h : C.2.2.2 = g.2.2) : C.2.2.2.1 = g.2.2.1 ∧ C.2.2.2.2 = g.2.2.2 := ⟨congrArg Prod.fst h, congrArg Prod.snd h⟩
section FC
variable {g : GS} {x y z : Int32}
theorem set_ok (h : RG g) : OKs g (sX6_set g x y) (sX7_set (sX6_set g x y).2 x y) := by
  have hI := h.2.1.1 0 (by omega)
  have R := set_rel (x := x) (v := y) hI h.2.2.1
  have A : sX6_set g x y = sX6_recorded (upW (sX2_note g) 0 (sX5_changeSetting (g.1 0) x y).2) (sX5_changeSetting (g.1 0) x y).1 := by
    unfold sX6_set
    rw [note_0]
  rw [A]
  have K := chg_ok h (a := sX5_changeSetting (g.1 0) x y) (b := ((g.2.2.1 0) (nn x), upd (g.2.2.1 0) (nn x) y)) (e := if sX7_isValue x y = 0 then -2 else 0) (fun q => by
      by_cases c : sX7_isValue x y = 0
      · rw [if_pos c]; exact ⟨R.1 c, by decide⟩
      · rw [if_neg c] at q; exact absurd rfl q) (fun q => by
      by_cases c : sX7_isValue x y = 0
      · rw [if_pos c] at q; exact absurd q (by decide)
      · obtain ⟨a1, a2, a3, a4⟩ := R.2 c
        refine ⟨a1, ?_, a2, Inv_set a3 a4 hI⟩
        rw [a1, Int32.le_iff_toInt_le, show (0 : Int32).toInt = 0 from by decide]
        have hS := hI.2.2.2.2.2.2.2.1
        rcases (show nn x = 0 ∨ nn x = 1 ∨ nn x = 2 ∨ nn x = 3 by omega) with k | k | k | k
        · rw [k]; exact hS.1.1
        · rw [k]; exact hS.2.1.1
        · rw [k]; exact hS.2.2.1.1
        · rw [k]; exact hS.2.2.2.1)
  generalize sX6_recorded (upW (sX2_note g) 0 (sX5_changeSetting (g.1 0) x y).2) (sX5_changeSetting (g.1 0) x y).1 = C at *
  have E : sX7_set C.2 x y = if (if sX7_isValue x y = 0 then (-2 : Int32) else 0) = 0 then ((g.2.2.1 0) (nn x), upS (sX7_changes C.2) 0 (upd (g.2.2.1 0) (nn x) y)) else ((if sX7_isValue x y = 0 then (-2 : Int32) else 0), C.2) := by
    unfold sX7_set
    rw [ch0, (OKs.t (R := C) K.1).1]
    by_cases c : sX7_isValue x y = 0
    · rw [if_pos c, if_pos c, if_neg (by decide)]
    · rw [if_neg c, if_neg c, if_pos rfl]
  rw [E]; exact K
theorem bridge_ok (h : RG g) : OKs g (sX6_bridge g x y z) (sX7_bridge (sX6_bridge g x y z).2 x y z) := by
  have hI := h.2.1.1 0 (by omega)
  have R := addBridge_rel (x := x) (y := y) (z := z) hI h.2.2.1
  have A : sX6_bridge g x y z = sX6_recorded (upW (sX2_note g) 0 (sX5_addBridge (g.1 0) x y z).2) (sX5_addBridge (g.1 0) x y z).1 := by
    unfold sX6_bridge
    rw [note_0]
  rw [A]
  have K := chg_ok h (a := sX5_addBridge (g.1 0) x y z) (b := sX7_builds (g.2.2.1 0) x y z) (e := sX7_bridgeError (g.2.2.1 0) x y z) R.1 (fun q => by
      obtain ⟨a1, a2, a3⟩ := R.2 q
      have d := bE0 hI.1.1 q
      exact ⟨a1, a2, a3, Inv_builds d.1 d.2.2.1 d.2.2.2.1 d.2.2.2.2.1 hI⟩)
  generalize sX6_recorded (upW (sX2_note g) 0 (sX5_addBridge (g.1 0) x y z).2) (sX5_addBridge (g.1 0) x y z).1 = C at *
  have E : sX7_bridge C.2 x y z = if sX7_bridgeError (g.2.2.1 0) x y z = 0 then ((sX7_builds (g.2.2.1 0) x y z).1, upS (sX7_changes C.2) 0 (sX7_builds (g.2.2.1 0) x y z).2) else (sX7_bridgeError (g.2.2.1 0) x y z, C.2) := by
    unfold sX7_bridge
    rw [ch0, (OKs.t (R := C) K.1).1]
  rw [E]; exact K
theorem cart_ok (h : RG g) : OKs g (sX6_cart g x y) (sX7_cart (sX6_cart g x y).2 x y) := by
  have hI := h.2.1.1 0 (by omega)
  have R := addCart_rel (x := x) (y := y) hI h.2.2.1
  have A : sX6_cart g x y = sX6_recorded (upW (sX2_note g) 0 (sX5_addCart (g.1 0) x y).2) (sX5_addCart (g.1 0) x y).1 := by
    unfold sX6_cart
    rw [note_0]
  rw [A]
  have K := chg_ok h (a := sX5_addCart (g.1 0) x y) (b := sX7_comes (g.2.2.1 0) x y) (e := sX7_cartError (g.2.2.1 0) x y) R.1 (fun q => by
      obtain ⟨a1, a2, a3⟩ := R.2 q
      have d := cE0 hI.1.1 q
      exact ⟨a1, a2, a3, Inv_comes d.1 d.2.1 d.2.2 hI⟩)
  generalize sX6_recorded (upW (sX2_note g) 0 (sX5_addCart (g.1 0) x y).2) (sX5_addCart (g.1 0) x y).1 = C at *
  have E : sX7_cart C.2 x y = if sX7_cartError (g.2.2.1 0) x y = 0 then ((sX7_comes (g.2.2.1 0) x y).1, upS (sX7_changes C.2) 0 (sX7_comes (g.2.2.1 0) x y).2) else (sX7_cartError (g.2.2.1 0) x y, C.2) := by
    unfold sX7_cart
    rw [ch0, (OKs.t (R := C) K.1).1]
  rw [E]; exact K
theorem guess_inv {r : Row} (hI : Inv r) (q : sX7_guessError r x y z = 0) : Inv (sX7_guesses r (nn x) (nn y) z).2 := by
  have hR := hI.1
  have a := gE0 hR q
  have b := isCart_of hR.1 a.1
  have c := isBridge_of hR.1 a.2.1
  have d := (hR.2.2.1 _ c.2.2).2.2.2
  rw [guesses_eq (room b.2.1 a.2.2.2.1 hI).1]
  exact Inv_gsw b.2.1 a.2.2.2.1 c.2.1 (sm_i a.2.2.1.1 (by have := a.2.2.1.2; omega)) hI
theorem guess_ok (h : RG g) : OKs g (sX6_guess g x y z) (sX7_guess (sX6_guess g x y z).2 x y z) := by
  have hI := h.2.1.1 0 (by omega)
  have R := guess_rel (x := x) (y := y) (z := z) hI h.2.2.1
  have A : sX6_guess g x y z = sX6_recorded (upW (sX2_note g) 0 (sX5_comeToWait (g.1 0) x y z).2) (sX5_comeToWait (g.1 0) x y z).1 := by
    unfold sX6_guess
    rw [note_0]
  rw [A]
  have K := chg_ok h (a := sX5_comeToWait (g.1 0) x y z) (b := sX7_guesses (g.2.2.1 0) (nn x) (nn y) z) (e := sX7_guessError (g.2.2.1 0) x y z) R.1 (fun q => by
      obtain ⟨a1, a2, a3⟩ := R.2 q
      exact ⟨a1, a2, a3, guess_inv hI q⟩)
  generalize sX6_recorded (upW (sX2_note g) 0 (sX5_comeToWait (g.1 0) x y z).2) (sX5_comeToWait (g.1 0) x y z).1 = C at *
  have E : sX7_guess C.2 x y z = if sX7_guessError (g.2.2.1 0) x y z = 0 then ((sX7_guesses (g.2.2.1 0) (nn x) (nn y) z).1, upS (sX7_changes C.2) 0 (sX7_guesses (g.2.2.1 0) (nn x) (nn y) z).2) else (sX7_guessError (g.2.2.1 0) x y z, C.2) := by
    unfold sX7_guess
    rw [ch0, (OKs.t (R := C) K.1).1]
  rw [E]; exact K
theorem leave_ok (h : RG g) : OKs g (sX6_leave g x) (sX7_leave (sX6_leave g x).2 x) := by
  have hI := h.2.1.1 0 (by omega)
  have R := leave_rel (x := x) hI h.2.2.1
  have A : sX6_leave g x = sX6_recorded (upW (sX2_note g) 0 (sX5_stopWaiting (g.1 0) x).2) (sX5_stopWaiting (g.1 0) x).1 := by
    unfold sX6_leave
    rw [note_0]
  rw [A]
  have K := chg_ok h (a := sX5_stopWaiting (g.1 0) x) (b := sX7_leaves (g.2.2.1 0) (nn x)) (e := sX7_leaveError (g.2.2.1 0) x) R.1 (fun q => by
      obtain ⟨a1, a2, a3⟩ := R.2 q
      exact ⟨a1, a2, a3, Inv_stops (isCart_of hI.1.1 (lE0 q).1).2.1 hI⟩)
  generalize sX6_recorded (upW (sX2_note g) 0 (sX5_stopWaiting (g.1 0) x).2) (sX5_stopWaiting (g.1 0) x).1 = C at *
  have E : sX7_leave C.2 x = if sX7_leaveError (g.2.2.1 0) x = 0 then ((sX7_leaves (g.2.2.1 0) (nn x)).1, upS (sX7_changes C.2) 0 (sX7_leaves (g.2.2.1 0) (nn x)).2) else (sX7_leaveError (g.2.2.1 0) x, C.2) := by
    unfold sX7_leave
    rw [ch0, (OKs.t (R := C) K.1).1]
  rw [E]; exact K
theorem hint_inv {r : Row} (hI : Inv r) (q : sX7_hintError r x y = 0) : Inv (sX7_hints r (nn x) (nn y)).2 := by
  have a := hE0 q
  have d := hE1 q
  exact Inv_hints (isCart_of hI.1.1 a.1).2.1 (isBridge_of hI.1.1 a.2).2.1 d.2.1 d.2.2 hI
theorem hint_ok (h : RG g) : OKs g (sX6_hint g x y) (sX7_hint (sX6_hint g x y).2 x y) := by
  have hI := h.2.1.1 0 (by omega)
  have R := hint_rel (x := x) (y := y) hI h.2.2.1
  have A : sX6_hint g x y = sX6_recorded (upW (sX2_note g) 0 (sX5_buyHint (g.1 0) x y).2) (sX5_buyHint (g.1 0) x y).1 := by
    unfold sX6_hint
    rw [note_0]
  rw [A]
  have K := chg_ok h (a := sX5_buyHint (g.1 0) x y) (b := sX7_hints (g.2.2.1 0) (nn x) (nn y)) (e := sX7_hintError (g.2.2.1 0) x y) R.1 (fun q => by
      obtain ⟨a1, a2, a3⟩ := R.2 q
      exact ⟨a1, a2, a3, hint_inv hI q⟩)
  generalize sX6_recorded (upW (sX2_note g) 0 (sX5_buyHint (g.1 0) x y).2) (sX5_buyHint (g.1 0) x y).1 = C at *
  have E : sX7_hint C.2 x y = if sX7_hintError (g.2.2.1 0) x y = 0 then ((sX7_hints (g.2.2.1 0) (nn x) (nn y)).1, upS (sX7_changes C.2) 0 (sX7_hints (g.2.2.1 0) (nn x) (nn y)).2) else (sX7_hintError (g.2.2.1 0) x y, C.2) := by
    unfold sX7_hint
    rw [ch0, (OKs.t (R := C) K.1).1]
  rw [E]; exact K
theorem pass_ok (h : RG g) : OKs g (sX6_pass g x) (sX7_pass (sX6_pass g x).2 x) := by
  have hI := h.2.1.1 0 (by omega)
  have R := pass_rel (x := x) hI h.2.2.1
  have A : sX6_pass g x = sX6_recorded (upW (sX2_note g) 0 (sX5_passHours (g.1 0) x).2) (sX5_passHours (g.1 0) x).1 := by
    unfold sX6_pass
    rw [note_0]
  rw [A]
  have K := chg_ok h (a := sX5_passHours (g.1 0) x) (b := sX7_hours (g.2.2.1 0) x) (e := sX7_passError (g.2.2.1 0) x) R.1 (fun q => by
      obtain ⟨a1, a3⟩ := R.2 q
      refine ⟨a1, ?_, a3, Inv_hours hI⟩
      rw [a1, Int32.le_iff_toInt_le, show (0 : Int32).toInt = 0 from by decide]
      exact hours_sm.1)
  generalize sX6_recorded (upW (sX2_note g) 0 (sX5_passHours (g.1 0) x).2) (sX5_passHours (g.1 0) x).1 = C at *
  have E : sX7_pass C.2 x = if sX7_passError (g.2.2.1 0) x = 0 then ((sX7_hours (g.2.2.1 0) x).1, upS (sX7_changes C.2) 0 (sX7_hours (g.2.2.1 0) x).2) else (sX7_passError (g.2.2.1 0) x, C.2) := by
    unfold sX7_pass
    rw [ch0, (OKs.t (R := C) K.1).1]
  rw [E]; exact K
end FC
