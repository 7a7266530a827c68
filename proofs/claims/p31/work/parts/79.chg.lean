/-! what is told of all, changes, undo -/
section PR
variable {g g' : GS} {x y z : Int32}
theorem ofBridge_same (h : g.1 0 = g'.1 0) : sX6_ofBridge g x y = sX6_ofBridge g' x y := by unfold sX6_ofBridge; rw [h]
theorem ofCart_same (h : g.1 0 = g'.1 0) : sX6_ofCart g x y = sX6_ofCart g' x y := by unfold sX6_ofCart; rw [h]
theorem knows_same (h : g.1 0 = g'.1 0) : sX6_knows g x y z = sX6_knows g' x y z := by unfold sX6_knows; rw [h]
theorem waits_same (h : g.1 0 = g'.1 0) : sX6_waits g x y = sX6_waits g' x y := by unfold sX6_waits; rw [h]
theorem count_same (h : g.1 0 = g'.1 0) {k : Nat} (hk : k < 13) : sX6_count g (nI k) = sX6_count g' (nI k) := by
  have n13 : ¬ nI k = 13 := fun q => by
    have := (nI_eq (b := 13) (by omega) (by omega)).mp q
    omega
  have n14 : ¬ nI k = 14 := fun q => by
    have := (nI_eq (b := 14) (by omega) (by omega)).mp q
    omega
  unfold sX6_count
  rw [if_neg n13, if_neg n14, if_neg n13, if_neg n14, h]
theorem print_same (h : g.1 0 = g'.1 0) : sL_print g = sL_print g' := by
  have c1 : sX6_count g 1 = sX6_count g' 1 := count_same (k := 1) h (by omega)
  have c2 : sX6_count g 2 = sX6_count g' 2 := count_same (k := 2) h (by omega)
  have p3 : ∀ (n : Nat) (v : Int64) (k : Nat), bL_print_133 g n v k = bL_print_133 g' n v k := by
    intro n
    induction n with
    | zero => intro v k; rfl
    | succ n ih =>
      intro v k
      rw [bL_print_133, bL_print_133, c2, ofCart_same h, ih]
  have p2 : ∀ (n : Nat) (v : Int64) (k : Nat), bL_print_33 g n v k = bL_print_33 g' n v k := by
    intro n
    induction n with
    | zero => intro v k; rfl
    | succ n ih =>
      intro v k
      rw [bL_print_33, bL_print_33, c1, c2, ofBridge_same h, knows_same h, knows_same h, waits_same h, ih, p3]
  have p1 : ∀ (n : Nat) (v : Int64) (k : Nat), k ≤ 13 → bL_print_6 g n v k = bL_print_6 g' n v k := by
    intro n
    induction n with
    | zero => intro v k _; rfl
    | succ n ih =>
      intro v k hk
      rw [bL_print_6, bL_print_6, c1]
      by_cases c : 13 ≤ nI k
      · rw [if_pos c, if_pos c, p2]
      · have hk2 : k < 13 := by
          rcases Nat.lt_or_ge k 13 with q | q
          · exact q
          · exact absurd (nI_le (a := 13) q (by omega)) c
        rw [if_neg c, if_neg c, count_same h hk2, ih _ _ (by omega)]
  unfold sL_print
  exact p1 _ _ _ (by omega)
end PR
/-- a change of the world now, with what is noted of it -/
def chg (g : GS) (r : Int32 × Row) : Int32 × GS := sX6_recorded (upW (sX2_note g) 0 r.2) r.1
theorem eta2 {α β : Type} {x : α × β} : (x.1, x.2) = x := rfl
section CH
variable {g : GS}
theorem note_0 : (sX2_note g).1 0 = g.1 0 := by
  unfold sX2_note
  exact upW_ne (by omega)
theorem note_C : (sX2_note g).2 = g.2 := rfl
theorem set_chg {x y : Int32} : sX6_set g x y = chg g (sX5_changeSetting (g.1 0) x y) := by
  unfold sX6_set chg
  rw [note_0, eta2]
theorem bridge_chg {x y z : Int32} : sX6_bridge g x y z = chg g (sX5_addBridge (g.1 0) x y z) := by
  unfold sX6_bridge chg
  rw [note_0, eta2]
theorem cart_chg {x y : Int32} : sX6_cart g x y = chg g (sX5_addCart (g.1 0) x y) := by
  unfold sX6_cart chg
  rw [note_0, eta2]
theorem guess_chg {x y z : Int32} : sX6_guess g x y z = chg g (sX5_comeToWait (g.1 0) x y z) := by
  unfold sX6_guess chg
  rw [note_0, eta2]
theorem leave_chg {x : Int32} : sX6_leave g x = chg g (sX5_stopWaiting (g.1 0) x) := by
  unfold sX6_leave chg
  rw [note_0, eta2]
theorem hint_chg {x y : Int32} : sX6_hint g x y = chg g (sX5_buyHint (g.1 0) x y) := by
  unfold sX6_hint chg
  rw [note_0, eta2]
theorem pass_chg {x : Int32} : sX6_pass g x = chg g (sX5_passHours (g.1 0) x) := by
  unfold sX6_pass chg
  rw [note_0, eta2]
theorem chg_1 {r : Int32 × Row} : (chg g r).1 = r.1 := by
  unfold chg sX6_recorded
  by_cases c : r.1 < 0
  · rw [if_pos c]
  · rw [if_neg c]
/-- a refused change -/
theorem chg_no {r : Int32 × Row} (h0 : r.1 < 0) (h : r.2 = g.1 0) : (chg g r).2.1 0 = g.1 0 ∧ (chg g r).2.2 = g.2 := by
  unfold chg sX6_recorded
  rw [if_pos h0]
  exact ⟨upW_1.trans h, rfl⟩
/-- the state behind a change, the world now being w1 -/
def Aft (g G : GS) (w1 : Row) : Prop := G.1 0 = w1 ∧ G.1 (2 + nn (g.2.1 0)) = g.1 0 ∧ G.2.1 0 = nI ((nn (g.2.1 0) + 1) % 7) ∧ G.2.1 1 = nI (min (nn (g.2.1 1) + 1) 6)
theorem Aft.sim {G G' : GS} {w1 : Row} (h : Aft g G w1) (hS : Sim G G') : Aft g G' w1 := by
  obtain ⟨a, b, c, d⟩ := h
  refine ⟨(hS.1 0 (by omega)).trans a, (hS.1 _ (by omega)).trans b, ?_, ?_⟩
  · rw [hS.2]; exact c
  · rw [hS.2]; exact d
theorem chg_yes {r : Int32 × Row} (hg : Gn g) (hu : sm (g.2.1 1) 6) (h0 : 0 ≤ r.1.toInt) : Aft g (chg g r).2 r.2 := by
  have hs := hg.2.2
  have hsl := (show sm (g.2.1 0) 6 from hs).le
  have hul := hu.le
  unfold chg sX6_recorded
  rw [if_neg (by rw [Int32.lt_iff_toInt_lt, show (0 : Int32).toInt = 0 from by decide]; omega)]
  refine ⟨?_, ?_, ?_, ?_⟩
  · show (upW (sX2_note g) 0 r.2).1 0 = r.2
    exact upW_1
  · show (upW (sX2_note g) 0 r.2).1 (2 + nn (g.2.1 0)) = _
    rw [upW_ne (by omega)]
    unfold sX2_note
    exact upW_1
  · show sX2_keepNoted g.2.1 0 = _
    unfold sX2_keepNoted
    rw [updn (by omega), upde]
    exact sp7a hs
  · show sX2_keepNoted g.2.1 1 = _
    unfold sX2_keepNoted
    rw [upde, updn (show ¬ 1 = 0 by omega), hu.eq, nI_1, nn_nI (by omega)]
    by_cases c : 6 < nI (nn (g.2.1 1) + 1)
    · rw [if_pos c]
      rw [Int32.lt_iff_toInt_lt, nI_toInt (by omega), show (6 : Int32).toInt = 6 from by decide] at c
      rw [Nat.min_eq_right (by omega)]; rfl
    · rw [if_neg c]
      rw [Int32.lt_iff_toInt_lt, nI_toInt (by omega), show (6 : Int32).toInt = 6 from by decide] at c
      rw [Nat.min_eq_left (by omega)]
theorem undo_aft {G : GS} {w1 : Row} (hg : Gn g) (hu : sm (g.2.1 1) 6) (h : Aft g G w1) : (sX6_undo G).1 = nI (min (nn (g.2.1 1) + 1) 6 - 1) ∧ (sX6_undo G).2.1 0 = g.1 0 ∧ (sX6_undo G).2.2.1 0 = g.2.1 0 ∧ (sX6_undo G).2.2.1 1 = nI (min (nn (g.2.1 1) + 1) 6 - 1) := by
  have hs : sm (g.2.1 0) 6 := hg.2.2
  have hsl := hs.le
  have hul := hu.le
  obtain ⟨a, b, c, d⟩ := h
  obtain ⟨m, hm⟩ : ∃ m, min (nn (g.2.1 1) + 1) 6 = m + 1 := ⟨min (nn (g.2.1 1) + 1) 6 - 1, by omega⟩
  have hm6 : m + 1 ≤ 6 := by omega
  rw [hm] at d ⊢
  have hsG : sm (G.2.1 0) 6 := by rw [c]; exact sm_nI (by omega) (by omega)
  have ne : ¬ G.2.1 1 = 0 := by
    rw [d]
    intro q
    have := (nI_eq (b := 0) (show m + 1 < 2 ^ 31 by omega) (by omega)).mp q
    omega
  have e7 := sp7b hsG
  have k7 : (nn (G.2.1 0) + 6) % 7 = nn (g.2.1 0) := by rw [c, nn_nI (by omega)]; omega
  have e1 : (sX2_takeBack G).2.1 1 = nI m := by
    show upd (upd G.2.1 0 ((G.2.1 0 + 7 - 1) - (G.2.1 0 + 7 - 1) / 7 * 7)) 1 (upd G.2.1 0 ((G.2.1 0 + 7 - 1) - (G.2.1 0 + 7 - 1) / 7 * 7) 1 - 1) 1 = nI m
    rw [upde, updn (show ¬ 1 = 0 by omega), d]
    exact nI_pred m
  unfold sX6_undo
  rw [if_neg ne]
  refine ⟨e1, ?_, ?_, e1⟩
  · show (sX2_takeBack G).1 0 = _
    unfold sX2_takeBack
    rw [upW_1, k7]
    exact b
  · show upd (upd G.2.1 0 ((G.2.1 0 + 7 - 1) - (G.2.1 0 + 7 - 1) / 7 * 7)) 1 (upd G.2.1 0 ((G.2.1 0 + 7 - 1) - (G.2.1 0 + 7 - 1) / 7 * 7) 1 - 1) 0 = g.2.1 0
    rw [updn (by omega), upde, e7, k7]
    exact hs.eq.symm
end CH
