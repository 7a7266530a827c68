theorem gE0 {w : Row} {x y z : Int32} (hr : Rn w) (h : sX7_guessError w x y z = 0) : ¬ sX7_isCart w x = 0 ∧ ¬ sX7_isBridge w y = 0 ∧ (0 ≤ z.toInt ∧ z.toInt < (w (20 + 7 * (nn y) + 2)).toInt) ∧ w (104 + 8 * (nn x) + 2) = -6 ∧ ¬ sX7_isAt w (nn y) (w (104 + 8 * (nn x))) = 0 := by
  unfold sX7_guessError at h
  by_cases h1 : sX7_isCart w x = 0
  · rw [if_pos h1] at h; exact absurd h (by decide)
  rw [if_neg h1] at h
  by_cases h2 : sX7_isBridge w y = 0
  · rw [if_pos h2] at h; exact absurd h (by decide)
  rw [if_neg h2] at h
  by_cases h3 : sX7_isNumber w (nn y) z = 0
  · rw [if_pos h3] at h; exact absurd h (by decide)
  rw [if_neg h3] at h
  by_cases h4 : w (104 + 8 * (nn x) + 2) = (-6)
  · rw [if_pos h4] at h
    by_cases h5 : sX7_isAt w (nn y) (w (104 + 8 * (nn x))) = 0
    · rw [if_pos h5] at h; exact absurd h (by decide)
    · unfold sX7_isNumber at h3
      have hb := isBridge_of hr.1 h2
      exact ⟨h1, h2, (in_cnt (hr.2.2.1 _ hb.2.2).2.2).mp h3, h4, h5⟩
  · rw [if_neg h4] at h; exact absurd h (by decide)
theorem hE1 {w : Row} {x y : Int32} (h : sX7_hintError w x y = 0) : ¬ sX7_isAt w (nn y) (w (104 + 8 * (nn x))) = 0 ∧ ¬ w (104 + 8 * (nn x) + 1) < w 1 ∧ ¬ w (168 + 2 * (12 * (nn x) + (nn y)) + 1) ≤ w (168 + 2 * (12 * (nn x) + (nn y))) := by
  unfold sX7_hintError at h
  by_cases h1 : sX7_isCart w x = 0
  · rw [if_pos h1] at h; exact absurd h (by decide)
  rw [if_neg h1] at h
  by_cases h2 : sX7_isBridge w y = 0
  · rw [if_pos h2] at h; exact absurd h (by decide)
  rw [if_neg h2] at h
  by_cases h3 : sX7_isAt w (nn y) (w (104 + 8 * (nn x))) = 0
  · rw [if_pos h3] at h; exact absurd h (by decide)
  rw [if_neg h3] at h
  by_cases h4 : w (104 + 8 * (nn x) + 1) < w (1)
  · rw [if_pos h4] at h; exact absurd h (by decide)
  rw [if_neg h4] at h
  by_cases h5 : w (168 + 2 * (12 * (nn x) + (nn y)) + 1) ≤ w (168 + 2 * (12 * (nn x) + (nn y)))
  · rw [if_pos h5] at h; exact absurd h (by decide)
  exact ⟨h3, h4, h5⟩
/-- a hint, told shortly -/
def hin (w : Row) (c i : Nat) : Row := upd (sX7_pays w c i (w 1)) 9 (w 9 + 1)
def mid (w : Row) (c i : Nat) : Int32 := (w (168 + 2 * (12 * c + i)) + w (168 + 2 * (12 * c + i) + 1)) / 2
theorem pays_o {w : Row} {c i j : Nat} {x : Int32} (h1 : ¬ j = 104 + 8 * c + 1) (h2 : ¬ j = 104 + 8 * c + 6) (h3 : ¬ j = 20 + 7 * i + 4) : sX7_pays w c i x j = w j := by
  unfold sX7_pays
  rw [updn h3, updn h2, updn h1]
theorem hin_r {w : Row} {c i j : Nat} (h : 168 ≤ j) (hc : c < 8) (hi : i < 12) : hin w c i j = w j := by
  unfold hin
  rw [updn (by omega), pays_o (by omega) (by omega) (by omega)]
theorem hints_eq {w : Row} {c i : Nat} (hc : c < 8) (hi : i < 12) : sX7_hints w c i = if mid w c i < w (20 + 7 * i + 3) then (w (168 + 2 * (12 * c + i) + 1) - (mid w c i + 1) + 1, upd (hin w c i) (168 + 2 * (12 * c + i)) (mid w c i + 1)) else (mid w c i - w (168 + 2 * (12 * c + i)) + 1, upd (hin w c i) (168 + 2 * (12 * c + i) + 1) (mid w c i)) := by
  have e9 : sX7_pays w c i (w (1)) 9 = w 9 := pays_o (by omega) (by omega) (by omega)
  have e0 : hin w c i (168 + 2 * (12 * c + i)) = w (168 + 2 * (12 * c + i)) := hin_r (by omega) hc hi
  have e1 : hin w c i (168 + 2 * (12 * c + i) + 1) = w (168 + 2 * (12 * c + i) + 1) := hin_r (by omega) hc hi
  have e3 : hin w c i (20 + 7 * i + 3) = w (20 + 7 * i + 3) := by
    unfold hin
    rw [updn (by omega), pays_o (by omega) (by omega) (by omega)]
  unfold sX7_hints
  rw [e9]
  show (if (hin w c i (168 + 2 * (12 * c + i)) + hin w c i (168 + 2 * (12 * c + i) + 1)) / 2 < hin w c i (20 + 7 * i + 3) then
    (((upd (hin w c i) (168 + 2 * (12 * c + i)) ((hin w c i (168 + 2 * (12 * c + i)) + hin w c i (168 + 2 * (12 * c + i) + 1)) / 2 + 1)) (168 + 2 * (12 * c + i) + 1)) - ((upd (hin w c i) (168 + 2 * (12 * c + i)) ((hin w c i (168 + 2 * (12 * c + i)) + hin w c i (168 + 2 * (12 * c + i) + 1)) / 2 + 1)) (168 + 2 * (12 * c + i))) + 1, upd (hin w c i) (168 + 2 * (12 * c + i)) ((hin w c i (168 + 2 * (12 * c + i)) + hin w c i (168 + 2 * (12 * c + i) + 1)) / 2 + 1))
    else (((upd (hin w c i) (168 + 2 * (12 * c + i) + 1) ((hin w c i (168 + 2 * (12 * c + i)) + hin w c i (168 + 2 * (12 * c + i) + 1)) / 2)) (168 + 2 * (12 * c + i) + 1)) - ((upd (hin w c i) (168 + 2 * (12 * c + i) + 1) ((hin w c i (168 + 2 * (12 * c + i)) + hin w c i (168 + 2 * (12 * c + i) + 1)) / 2)) (168 + 2 * (12 * c + i))) + 1, upd (hin w c i) (168 + 2 * (12 * c + i) + 1) ((hin w c i (168 + 2 * (12 * c + i)) + hin w c i (168 + 2 * (12 * c + i) + 1)) / 2))) = _
  rw [updn (show ¬ 168 + 2 * (12 * c + i) + 1 = 168 + 2 * (12 * c + i) by omega), upde, upde, updn (show ¬ 168 + 2 * (12 * c + i) = 168 + 2 * (12 * c + i) + 1 by omega), e0, e1, e3]
  rfl
theorem mid_sm {w : Row} {c i : Nat} (hc : c < 8) (hi : i < nn (w 5)) (h : Inv w) : (mid w c i).toInt = ((w (168 + 2 * (12 * c + i))).toInt + (w (168 + 2 * (12 * c + i) + 1)).toInt) / 2 := by
  have h5 := h.1.1.2.1.le
  have hs := (h.1.2.2.1 i (by omega)).2.2.2
  obtain ⟨r0, r1, r2⟩ := h.2.2.2.2.1 c i hc (by omega) hi
  have e : (2 : Int32).toInt = 2 := by decide
  unfold mid
  rw [Int32.toInt_div_of_ne_right _ _ (by decide), e, ta (by omega), Int.tdiv_eq_ediv_of_nonneg (by omega)]
theorem Inv_hints {w : Row} {c i : Nat} (hc : c < nn (w 6)) (hi : i < nn (w 5)) (hp : ¬ w (104 + 8 * c + 1) < w 1) (hl : ¬ w (168 + 2 * (12 * c + i) + 1) ≤ w (168 + 2 * (12 * c + i))) (h : Inv w) : Inv (sX7_hints w c i).2 := by
  have h6 := h.1.1.2.2.le
  have h5 := h.1.1.2.1.le
  have hc8 : c < 8 := by omega
  have hi12 : i < 12 := by omega
  rw [hints_eq hc8 hi12]
  rw [Int32.lt_iff_toInt_lt] at hp
  rw [Int32.le_iff_toInt_le] at hl
  have hS := h.2.2.2.2.2.2.2.1.2.1
  have hP : Inv (sX7_pays w c i (w 1)) := Inv_pays hc hi hS.1 (by unfold co; omega) h
  have hI : Inv (hin w c i) := Inv_free (by unfold free; omega) hP
  obtain ⟨r0, r1, r2⟩ := h.2.2.2.2.1 c i hc8 hi12 hi
  have hm := mid_sm hc8 hi h
  have hs := (h.1.2.2.1 i (by omega)).2.2.2
  have e1 : hin w c i (168 + 2 * (12 * c + i) + 1) = w (168 + 2 * (12 * c + i) + 1) := hin_r (by omega) hc8 hi12
  have e0 : hin w c i (168 + 2 * (12 * c + i)) = w (168 + 2 * (12 * c + i)) := hin_r (by omega) hc8 hi12
  have h1 : (1 : Int32).toInt = 1 := by decide
  have es : hin w c i (20 + 7 * i + 2) = w (20 + 7 * i + 2) := by
    unfold hin
    rw [updn (by omega), pays_o (by omega) (by omega) (by omega)]
  have k5 : hin w c i 5 = w 5 ∧ hin w c i 6 = w 6 := by
    unfold hin
    exact ⟨by rw [updn (by omega), pays_5.1], by rw [updn (by omega), pays_5.2]⟩
  by_cases c1 : mid w c i < w (20 + 7 * i + 3)
  · rw [if_pos c1]
    have := Inv_rng (w := hin w c i) (c := c) (i := i) (a := mid w c i + 1) (b := hin w c i (168 + 2 * (12 * c + i) + 1)) (by rw [k5.2]; exact hc) (by rw [k5.1]; exact hi) (by rw [ta (by omega)]; omega) (by rw [ta (by omega), e1]; omega) (by rw [es, e1]; omega) hI
    rw [upd_id (updn (by omega))] at this
    exact this
  · rw [if_neg c1]
    have := Inv_rng (w := hin w c i) (c := c) (i := i) (a := hin w c i (168 + 2 * (12 * c + i))) (b := mid w c i) (by rw [k5.2]; exact hc) (by rw [k5.1]; exact hi) (by rw [e0]; omega) (by rw [e0]; omega) (by rw [es]; omega) hI
    rw [upd_id (w := hin w c i) (j := 168 + 2 * (12 * c + i)) rfl] at this
    exact this
def Gi (g : GS) : Prop := (∀ t, t < 10 → Inv (g.2.2.1 t)) ∧ Pt g.2.2.2 ∧ sm (g.2.2.2 0) 6
theorem Gi.gm {g : GS} (h : Gi g) : Gm g := ⟨fun t ht => (h.1 t ht).1, h.2⟩
theorem Gi_upS {g : GS} {t : Nat} {w : Row} (h : Gi g) (hw : Inv w) : Gi (upS g t w) := by
  refine ⟨fun t' ht' => ?_, h.2⟩
  by_cases q : t' = t
  · subst q; rw [upS_1]; exact hw
  · rw [upS_ne q]; exact h.1 t' ht'
theorem Gi_upR {g : GS} {r : Row} (h : Gi g) (hr : Pt r ∧ sm (r 0) 6) : Gi (upR g r) := ⟨h.1, hr⟩
theorem Gi_changes {g : GS} (h : Gi g) : Gi (sX7_changes g) := by
  have hm := Gm_changes h.gm
  refine ⟨?_, hm.2⟩
  unfold sX7_changes
  by_cases c : g.2.2.2 0 = 6
  · rw [if_pos c]
    have h1 := Gi_upS (t := 1) h (h.1 2 (by omega))
    have h2 := Gi_upS (t := 2) h1 (h1.1 3 (by omega))
    have h3 := Gi_upS (t := 3) h2 (h2.1 4 (by omega))
    have h4 := Gi_upS (t := 4) h3 (h3.1 5 (by omega))
    have h5 := Gi_upS (t := 5) h4 (h4.1 6 (by omega))
    exact (Gi_upS (t := 6) h5 (h5.1 0 (by omega))).1
  · rw [if_neg c]
    exact (Gi_upS h (h.1 0 (by omega))).1
/-- the reference's other ints but the places of its reading are left as they are -/
def Kp (r0 r : Row) : Prop := ∀ j, j < 2 ∨ 7 ≤ j → r j = r0 j
theorem Kp_rf {r : Row} : Kp r r := fun _ _ => rfl
theorem Kp_upd {r0 r : Row} {j : Nat} {v : Int32} (h1 : 2 ≤ j) (h2 : j < 7) (h : Kp r0 r) : Kp r0 (upd r j v) := fun k hk => by rw [updn (by omega)]; exact h k hk
theorem Kp_i2 {β : Type} {r0 : Row} {c : Prop} {i : Decidable c} {a b : β × Row} (h1 : Kp r0 a.2) (h2 : Kp r0 b.2) : Kp r0 (@ite _ c i a b).2 := by cases i <;> assumption
theorem Kp_p2 {β : Type} {r0 : Row} {v : β} {w : Row} (h : Kp r0 w) : Kp r0 (v, w).2 := h
theorem Kp_takes {r0 r : Row} {x : Int32} (h : Kp r0 r) : Kp r0 (sX7_takes r x).2 := by
  unfold sX7_takes
  exact Kp_i2 (Kp_upd (by omega) (by omega) h) (Kp_upd (by omega) (by omega) h)
theorem Kp_digit {r0 r : Row} (h : Kp r0 r) : Kp r0 (sX7_digit r).2 := by
  unfold sX7_digit
  exact Kp_i2 (Kp_upd (by omega) (by omega) h) (Kp_i2 (Kp_upd (by omega) (by omega) h) (Kp_upd (by omega) (by omega) h))
theorem Kp_number {r0 r : Row} (h : Kp r0 r) : Kp r0 (sX7_number r).2 := by
  have key : ∀ (n : Nat) (r : Row) (v : Int32), Kp r0 r → Kp r0 (bX7_number_5 n r v).2 := by
    intro n
    induction n with
    | zero => intro r v h; exact h
    | succ n ih =>
      intro r v h
      rw [bX7_number_5]
      exact Kp_i2 h (Kp_i2 h (ih _ _ (Kp_upd (by omega) (by omega) h)))
  unfold sX7_number
  exact key _ _ _ (Kp_digit h)
theorem Kp_X7_readsOne {r0 r : Row} (h : Kp r0 r) : Kp r0 (sX7_readsOne r).2 := Kp_i2 (Kp_upd (by omega) (by omega) (Kp_digit h)) (Kp_upd (by omega) (by omega) (Kp_digit h))
theorem Kp_X7_readsTwo {r0 r : Row} {x : Int32} (h : Kp r0 r) : Kp r0 (sX7_readsTwo r x).2 := Kp_i2 (Kp_i2 (Kp_upd (by omega) (by omega) (Kp_number h)) (Kp_upd (by omega) (by omega) (Kp_number h))) (Kp_i2 (Kp_upd (by omega) (by omega) (Kp_digit h)) (Kp_upd (by omega) (by omega) (Kp_digit h)))
theorem Kp_X7_readsThree {r0 r : Row} (h : Kp r0 r) : Kp r0 (sX7_readsThree r).2 := Kp_i2 (Kp_upd (by omega) (by omega) (Kp_number h)) (Kp_upd (by omega) (by omega) (Kp_number h))
theorem Kp_ord {r0 r : Row} {kd : Int32} (h : Kp r0 r) : Kp r0 (upd (upd r (3) kd) (2) (((upd r (3) kd) 2) + 1)) := Kp_upd (by omega) (by omega) (Kp_upd (by omega) (by omega) h)
theorem Kp_back {r0 r : Row} {kd : Int32} (h : Kp r0 r) : Kp r0 (upd (upd (upd r (3) kd) (2) (((upd r (3) kd) 2) + 1)) (2) (((upd (upd r (3) kd) (2) (((upd r (3) kd) 2) + 1)) 2) - 1)) := Kp_upd (by omega) (by omega) (Kp_ord h)
theorem Kp_rd27 {r0 r : Row} {kd : Int32} (h : Kp r0 r) : Kp r0 (bX7_readsOrder_27 r kd).2 := by
  unfold bX7_readsOrder_27
  exact Kp_i2 (Kp_i2 (Kp_p2 (Kp_X7_readsOne (Kp_ord h))) (Kp_i2 (Kp_p2 (Kp_X7_readsTwo (Kp_X7_readsOne (Kp_ord h)))) (Kp_i2 (Kp_p2 (Kp_takes (Kp_X7_readsTwo (Kp_X7_readsOne (Kp_ord h))))) (Kp_i2 (Kp_p2 (Kp_X7_readsThree (Kp_takes (Kp_X7_readsTwo (Kp_X7_readsOne (Kp_ord h)))))) (Kp_p2 (Kp_X7_readsThree (Kp_takes (Kp_X7_readsTwo (Kp_X7_readsOne (Kp_ord h)))))))))) (Kp_i2 (Kp_i2 (Kp_p2 (Kp_X7_readsOne (Kp_ord h))) (Kp_i2 (Kp_p2 (Kp_takes (Kp_X7_readsOne (Kp_ord h)))) (Kp_i2 (Kp_p2 (Kp_X7_readsThree (Kp_takes (Kp_X7_readsOne (Kp_ord h))))) (Kp_p2 (Kp_X7_readsThree (Kp_takes (Kp_X7_readsOne (Kp_ord h)))))))) (Kp_i2 (Kp_i2 (Kp_p2 (Kp_X7_readsOne (Kp_ord h))) (Kp_i2 (Kp_p2 (Kp_takes (Kp_X7_readsOne (Kp_ord h)))) (Kp_i2 (Kp_p2 (Kp_X7_readsTwo (Kp_takes (Kp_X7_readsOne (Kp_ord h))))) (Kp_i2 (Kp_p2 (Kp_takes (Kp_X7_readsTwo (Kp_takes (Kp_X7_readsOne (Kp_ord h)))))) (Kp_i2 (Kp_p2 (Kp_X7_readsThree (Kp_takes (Kp_X7_readsTwo (Kp_takes (Kp_X7_readsOne (Kp_ord h))))))) (Kp_p2 (Kp_X7_readsThree (Kp_takes (Kp_X7_readsTwo (Kp_takes (Kp_X7_readsOne (Kp_ord h)))))))))))) (Kp_i2 (Kp_i2 (Kp_p2 (Kp_X7_readsOne (Kp_ord h))) (Kp_i2 (Kp_p2 (Kp_takes (Kp_X7_readsOne (Kp_ord h)))) (Kp_i2 (Kp_p2 (Kp_X7_readsTwo (Kp_takes (Kp_X7_readsOne (Kp_ord h))))) (Kp_p2 (Kp_X7_readsTwo (Kp_takes (Kp_X7_readsOne (Kp_ord h)))))))) (Kp_i2 (Kp_p2 (Kp_X7_readsOne (Kp_ord h))) (Kp_i2 (Kp_p2 (Kp_X7_readsThree (Kp_ord h))) (Kp_p2 (Kp_back h)))))))
theorem Kp_readsOrder {r0 r : Row} (h : Kp r0 r) : Kp r0 (sX7_readsOrder r).2 := Kp_i2 (Kp_rd27 h) (Kp_rd27 h)
