/-! a bridge in an hour -/
/-- what one that comes over leaves as it was, and what not -/
def Fin (w w' : Row) (c i : Nat) : Prop := (∀ j, ¬ (j = 7 ∨ j = 10 ∨ (12 ≤ j ∧ j < 20) ∨ (20 + 7 * i + 3 ≤ j ∧ j < 20 + 7 * i + 7) ∨ (104 + 8 * c ≤ j ∧ j < 104 + 8 * c + 8) ∨ (168 ≤ j ∧ j < 360 ∧ ((j - 168) / 2) % 12 = i) ∨ j = 360 + i) → w' j = w j) ∧
  w' (104 + 8 * c + 2) = -6 ∧ w' (104 + 8 * c + 5) = w (104 + 8 * c + 5) + 1 ∧ qs w' = (qs w).filter (fun x => decide (x ≠ c))
def Over (w : Row) (c i : Nat) (r : Int32 × Row) : Prop := r.1 = 1 ∧ WI r.2 ∧ Fin w r.2 c i
theorem Over_i {w : Row} {c i : Nat} {q : Prop} {d : Decidable q} {a b : Int32 × Row} (h1 : Over w c i a) (h2 : Over w c i b) : Over w c i (@ite _ q d a b) := by cases d <;> assumption
def Mid (w w' : Row) (c i : Nat) : Prop := WI w' ∧ ∀ j, ¬ (j = 20 + 7 * i + 4 ∨ j = 20 + 7 * i + 6 ∨ j = 104 + 8 * c + 1 ∨ j = 104 + 8 * c + 6 ∨ j = 104 + 8 * c + 7) → w' j = w j
section OV
variable {w w' : Row} {c i : Nat}
theorem lo102 {t : Int32} (hc : c < nn (w' 6)) (hi : i < nn (w' 5)) (hw : w' (104 + 8 * c + 2) = -6) (ht : sm t 7) (h : WI w') :
    ∃ X : Row, bX5_letOver_102 i (upd w' (104 + 8 * c) t) c = (1, drw X i) ∧ WI (drw X i) ∧ X (104 + 8 * c + 5) = w' (104 + 8 * c + 5) + 1 ∧ ∀ j, ¬ (j = 104 + 8 * c ∨ j = 104 + 8 * c + 5 ∨ j = 20 + 7 * i + 5) → X j = w' j := by
  have h6 := h.a.n6
  have h5 := h.a.n5
  have hX := WI_cross hc hi hw ht h
  refine ⟨upd (upd (upd w' (104 + 8 * c) t) (104 + 8 * c + 5) (w' (104 + 8 * c + 5) + 1)) (20 + 7 * i + 5) (w' (20 + 7 * i + 5) + 1), ?_, ?_, ?_, ?_⟩
  · have e5 : (upd (upd (upd w' (104 + 8 * c) t) (104 + 8 * c + 5) (w' (104 + 8 * c + 5) + 1)) (20 + 7 * i + 5) (w' (20 + 7 * i + 5) + 1)) 5 = w' 5 := by rw [updn (by omega), updn (by omega), updn (by omega)]
    rw [← draw5 (by rw [e5]; exact hi) hX]
    unfold bX5_letOver_102
    rw [show upd w' (104 + 8 * c) t (104 + 8 * c + 5) = w' (104 + 8 * c + 5) from updn (by omega)]
    rw [show upd (upd w' (104 + 8 * c) t) (104 + 8 * c + 5) (w' (104 + 8 * c + 5) + 1) (20 + 7 * i + 5) = w' (20 + 7 * i + 5) from by rw [updn (by omega), updn (by omega)]]
  · exact WI_draw (by rw [updn (by omega), updn (by omega), updn (by omega)]; exact hi) hX
  · rw [updn (by omega), upde]
  · intro j hj
    rw [updn (by omega), updn (by omega), updn (by omega)]
theorem lo84 (hi : i < nn (w 5)) (hc : c ∈ qs w) (hw : w (104 + 8 * c + 2) = nI i) (h : WI w) (hm : Mid w w' c i) : Over w c i (bX5_letOver_84 i w' c) := by
  obtain ⟨h', E⟩ := hm
  have h6 := h.a.n6
  have h5 := h.a.n5
  have hc8 := h.q8 hc
  have hc6 := h.lt6 hc
  have eq : qs w' = qs w := qs_c (fun j hj => E j (by omega)) h.a
  have hc' : c ∈ qs w' := by rw [eq]; exact hc
  have hw' : w' (104 + 8 * c + 2) = nI i := by rw [E _ (by omega)]; exact hw
  have hr := WI_release hc' (by omega) hw' h'
  have rE := re_E (w := w') hc8 (show i < 12 by omega) h'.a
  have r2 := re_2 (w := w') hc8 (show i < 12 by omega) h'.a
  have hi' : i < nn (sX5_release w' c i 5) := by rw [rE 5 (by omega), E 5 (by omega)]; exact hi
  have hc6' : c < nn (sX5_release w' c i 6) := by rw [rE 6 (by omega), E 6 (by omega)]; exact hc6
  have hb := (hr.b i (by omega) hi').1
  have ht : sm (sX0_farFrom (sX5_release w' c i) i (sX5_release w' c i (104 + 8 * c))) 7 := by
    unfold sX0_farFrom
    split
    · exact hb.2
    · exact hb.1
  obtain ⟨X, e1, e2, e3, e4⟩ := lo102 hc6' hi' r2 ht hr
  unfold bX5_letOver_84
  rw [e1]
  have D : ∀ j, ¬ (j = 7 ∨ j = 20 + 7 * i + 3 ∨ (168 ≤ j ∧ j < 360 ∧ ((j - 168) / 2) % 12 = i)) → drw X i j = X j := fun j hj => drw_o (by omega) (by omega) (by omega) (by omega)
  refine ⟨rfl, e2, fun j hj => ?_, ?_, ?_, ?_⟩
  · show drw X i j = w j
    rw [D j (by omega), e4 j (by omega), rE j (by omega), E j (by omega)]
  · show drw X i (104 + 8 * c + 2) = -6
    rw [D _ (by omega), e4 _ (by omega), r2]
  · show drw X i (104 + 8 * c + 5) = _
    rw [D _ (by omega), e3, rE _ (by omega), E _ (by omega)]
  · show qs (drw X i) = _
    have a1 : qs (drw X i) = qs (sX5_release w' c i) := qs_c (fun j hj => by rw [D j (by omega), e4 j (by omega)]) hr.a
    rw [a1, re_qs hc8 (by omega) h'.a, eq]
theorem lo62 (hi : i < nn (w 5)) (hc : c ∈ qs w) (hw : w (104 + 8 * c + 2) = nI i) (h : WI w) (hm : Mid w w' c i) : Over w c i (bX5_letOver_62 i w' c) := by
  have h6 := h.a.n6
  have h5 := h.a.n5
  have hc6 := h.lt6 hc
  unfold bX5_letOver_62
  refine Over_i (lo84 hi hc hw h ⟨WI_gift (by rw [hm.2 6 (by omega)]; exact hc6) (by rw [hm.2 5 (by omega)]; exact hi) hm.1.s.2.2.1.1 hm.1, fun j hj => ?_⟩) (lo84 hi hc hw h hm)
  unfold sX1_takeGift
  rw [updn (by omega), updn (by omega), updn (by omega), hm.2 j hj]
theorem Mid_ties {v : Int32} (hi : i < 12) (h : WI w) : Mid w (upd w (20 + 7 * i + 6) v) c i := ⟨WI_free (Or.inr (by omega)) h, fun j hj => updn (by omega)⟩
theorem Mid_pay (hc : c < nn (w' 6)) (hi : i < nn (w' 5)) (hm : Mid w w' c i) : Mid w (sX1_pay w' c (if w' (104 + 8 * c + 1) < w' 0 then w' (104 + 8 * c + 1) else w' 0) i) c i := by
  have h6 := hm.1.a.n6
  have q := min_le (a := w' (104 + 8 * c + 1)) (b := w' 0) (hm.1.m.1 c (by omega)) hm.1.s.1.1
  refine ⟨WI_pay hc hi q.1 q.2.1 hm.1, fun j hj => ?_⟩
  unfold sX1_pay
  rw [updn (by omega), updn (by omega), updn (by omega), hm.2 j hj]
theorem letOver_some (hi : i < nn (w 5)) (hc : cmr w i = some c) (h : WI w) : Over w c i (sX5_letOver w i) := by
  have h6 := h.a.n6
  have h5 := h.a.n5
  obtain ⟨hq, hw⟩ := cmr_mem hc
  have hc6 := h.lt6 hq
  have m0 : Mid w w c i := ⟨h, fun _ _ => rfl⟩
  have m1 : Mid w (upd w (20 + 7 * i + 6) (w (20 + 7 * i + 6) + 1)) c i := Mid_ties (by omega) h
  have p0 := Mid_pay hc6 hi m0
  have p1 := Mid_pay (by rw [updn (by omega)]; exact hc6) (by rw [updn (by omega)]; exact hi) m1
  unfold sX5_letOver
  rw [h.comer hi, hc, oe_some rfl]
  exact Over_i (Over_i (Over_i (lo62 hi hq hw h p0) (lo62 hi hq hw h m0)) (lo62 hi hq hw h p0)) (Over_i (Over_i (lo62 hi hq hw h p1) (lo62 hi hq hw h m1)) (lo62 hi hq hw h p1))
theorem letOver_none (hi : i < nn (w 5)) (hc : cmr w i = none) (h : WI w) : (sX5_letOver w i).1 = 0 ∧ WI (sX5_letOver w i).2 ∧ ∀ j, ¬ j = 20 + 7 * i + 6 → (sX5_letOver w i).2 j = w j := by
  have h5 := h.a.n5
  unfold sX5_letOver
  rw [h.comer hi, hc, oe_none rfl]
  by_cases t : sX5_isTied w i = 0
  · rw [if_pos t]; exact ⟨rfl, h, fun _ _ => rfl⟩
  · rw [if_neg t]; exact ⟨rfl, WI_free (Or.inr (by omega)) h, fun j hj => updn hj⟩
end OV
