/-! what the reference's steps keep -/
theorem ta {a b : Int32} (h : -2147483648 ≤ a.toInt + b.toInt ∧ a.toInt + b.toInt ≤ 2147483647) : (a + b).toInt = a.toInt + b.toInt := by
  rw [Int32.toInt_add, Int.bmod_eq_of_le (by omega) (by omega)]
theorem ts {a b : Int32} (h : -2147483648 ≤ a.toInt - b.toInt ∧ a.toInt - b.toInt ≤ 2147483647) : (a - b).toInt = a.toInt - b.toInt := by
  rw [Int32.toInt_sub, Int.bmod_eq_of_le (by omega) (by omega)]
theorem IM_b {w : Row} {c i : Nat} (hc : c < 8) (hi : i < 12) (h8 : nn (w 6) ≤ 8) (h : IM w) : co w c + tl w i ≤ 79992 ∧ 0 ≤ co w c ∧ 0 ≤ tl w i := by
  have a := sumN_le (f := co w) 8 hc h.1
  have b := sumN_le (f := tl w) 12 hi h.2.1
  have := h.2.2.1
  have := h.2.2.2
  exact ⟨by omega, h.1 c hc, h.2.1 i hi⟩
theorem IM_move {w w' : Row} {c i : Nat} {d : Int} (hc : c < 8) (hi : i < 12) (h8 : w' 8 = w 8) (h6 : w' 6 = w 6) (e1 : co w' c = co w c - d) (e2 : tl w' i = tl w i + d)
    (n1 : ∀ k, k < 8 → ¬ k = c → co w' k = co w k) (n2 : ∀ k, k < 12 → ¬ k = i → tl w' k = tl w k) (p1 : 0 ≤ co w c - d) (p2 : 0 ≤ tl w i + d) (h : IM w) : IM w' := by
  refine ⟨fun k hk => ?_, fun k hk => ?_, ?_, ?_⟩
  · by_cases e : k = c
    · subst e; rw [e1]; exact p1
    · rw [n1 k hk e]; exact h.1 k hk
  · by_cases e : k = i
    · subst e; rw [e2]; exact p2
    · rw [n2 k hk e]; exact h.2.1 k hk
  · rw [sumN_one 8 hc n1, sumN_one 12 hi n2, e1, e2, h8]
    have := h.2.2.1
    omega
  · rw [h8, h6]; exact h.2.2.2
def InvX (w : Row) : Prop := Rn w ∧ IQ w ∧ IZ w ∧ IW w ∧ IR w ∧ IG w ∧ IS w ∧ IT w
theorem Inv.x {w : Row} (h : Inv w) : InvX w := ⟨h.1, h.2.1, h.2.2.1, h.2.2.2.1, h.2.2.2.2.1, h.2.2.2.2.2.1, h.2.2.2.2.2.2.2.1, h.2.2.2.2.2.2.2.2⟩
theorem Inv.m {w : Row} (h : Inv w) : IM w := h.2.2.2.2.2.2.1
theorem InvX.mk {w : Row} (h : InvX w) (m : IM w) : Inv w := ⟨h.1, h.2.1, h.2.2.1, h.2.2.2.1, h.2.2.2.2.1, h.2.2.2.2.2.1, m, h.2.2.2.2.2.2.1, h.2.2.2.2.2.2.2⟩
def freeM (w : Row) (j : Nat) : Prop := j = 4 ∨ j = 8 ∨ j = 9 ∨ (20 ≤ j ∧ j < 104 ∧ ((j - 20) % 7 = 4 ∨ (j - 20) % 7 = 6) ∧ (j - 20) / 7 < nn (w 5)) ∨ (104 ≤ j ∧ j < 168 ∧ (6 ≤ (j - 104) % 8 ∨ (j - 104) % 8 = 1) ∧ (j - 104) / 8 < nn (w 6))
theorem InvX_upd {w : Row} {j : Nat} {v : Int32} (hf : freeM w j) (h : InvX w) : InvX (upd w j v) := by
  obtain ⟨hR, hQ, hZ, hW, hI, hG, hS, hT⟩ := h
  unfold freeM at hf
  exact ⟨Rn_upd (by unfold bad; omega) hR, IQ_upd hR.1 (by omega) (by omega) (by omega) (by omega) (fun c hc => by omega) hQ, IZ_upd (by unfold zp; omega) hZ,
    IW_upd (fun c hc => by omega) hW, IR_upd (by omega) (by omega) (fun i hi => by omega) hI, IG_upd (by omega) (fun i hi => by omega) (fun c hc => by omega) hG,
    IS_upd (by omega) hS, IT_upd (fun c hc => by omega) (fun i hi => by omega) hT⟩
theorem Inv_pays {w : Row} {c i : Nat} {x : Int32} (hc : c < nn (w 6)) (hi : i < nn (w 5)) (h0 : 0 ≤ x.toInt) (h1 : x.toInt ≤ co w c) (h : Inv w) : Inv (sX7_pays w c i x) := by
  have h6 := h.1.1.2.2.le
  have h5 := h.1.1.2.1.le
  have hb := IM_b (c := c) (i := i) (by omega) (by omega) h6 h.m
  unfold sX7_pays
  have e6 : ∀ {j : Nat} {v : Int32} {w : Row}, 20 ≤ j → upd w j v 6 = w 6 := fun hj => updn (by omega)
  have e5 : ∀ {j : Nat} {v : Int32} {w : Row}, 20 ≤ j → upd w j v 5 = w 5 := fun hj => updn (by omega)
  refine InvX.mk (InvX_upd ?_ (InvX_upd ?_ (InvX_upd ?_ h.x))) (IM_move (c := c) (i := i) (d := x.toInt) (by omega) (by omega) ?_ ?_ ?_ ?_ (fun k hk hkc => ?_) (fun k hk hki => ?_) ?_ ?_ h.m)
  · unfold freeM; rw [e5 (by omega), e6 (by omega), e5 (by omega), e6 (by omega)]; omega
  · unfold freeM; rw [e5 (by omega), e6 (by omega)]; omega
  · unfold freeM; omega
  · rw [updn (by omega), updn (by omega), updn (by omega)]
  · rw [updn (by omega), updn (by omega), updn (by omega)]
  · unfold co
    rw [updn (by omega), updn (by omega), upde]
    unfold co at h1 hb
    unfold tl at hb
    exact ts (by omega)
  · unfold tl
    rw [upde, updn (by omega), updn (by omega)]
    unfold co at h1 hb
    unfold tl at hb
    exact ta (by omega)
  · unfold co
    rw [updn (by omega), updn (by omega), updn (by omega)]
  · unfold tl
    rw [updn (by omega), updn (by omega), updn (by omega)]
  · omega
  · omega
/-- a gift out of the till -/
def gives (w : Row) (c i : Nat) (x : Int32) : Row := upd (upd (upd w (20 + 7 * i + 4) ((w (20 + 7 * i + 4)) - x)) (104 + 8 * c + 1) (((upd w (20 + 7 * i + 4) ((w (20 + 7 * i + 4)) - x)) (104 + 8 * c + 1)) + x)) (104 + 8 * c + 7) (((upd (upd w (20 + 7 * i + 4) ((w (20 + 7 * i + 4)) - x)) (104 + 8 * c + 1) (((upd w (20 + 7 * i + 4) ((w (20 + 7 * i + 4)) - x)) (104 + 8 * c + 1)) + x)) (104 + 8 * c + 7)) + x)
theorem Inv_gives {w : Row} {c i : Nat} {x : Int32} (hc : c < nn (w 6)) (hi : i < nn (w 5)) (h0 : 0 ≤ x.toInt) (h1 : x.toInt ≤ tl w i) (h : Inv w) : Inv (gives w c i x) := by
  have h6 := h.1.1.2.2.le
  have h5 := h.1.1.2.1.le
  have hb := IM_b (c := c) (i := i) (by omega) (by omega) h6 h.m
  unfold gives
  have e6 : ∀ {j : Nat} {v : Int32} {w : Row}, 20 ≤ j → upd w j v 6 = w 6 := fun hj => updn (by omega)
  have e5 : ∀ {j : Nat} {v : Int32} {w : Row}, 20 ≤ j → upd w j v 5 = w 5 := fun hj => updn (by omega)
  refine InvX.mk (InvX_upd ?_ (InvX_upd ?_ (InvX_upd ?_ h.x))) (IM_move (c := c) (i := i) (d := - x.toInt) (by omega) (by omega) ?_ ?_ ?_ ?_ (fun k hk hkc => ?_) (fun k hk hki => ?_) ?_ ?_ h.m)
  · unfold freeM; rw [e5 (by omega), e6 (by omega), e5 (by omega), e6 (by omega)]; omega
  · unfold freeM; rw [e5 (by omega), e6 (by omega)]; omega
  · unfold freeM; omega
  · rw [updn (by omega), updn (by omega), updn (by omega)]
  · rw [updn (by omega), updn (by omega), updn (by omega)]
  · unfold co
    rw [updn (by omega), upde, updn (by omega)]
    unfold co at hb
    unfold tl at h1 hb
    rw [ta (by omega)]; omega
  · unfold tl
    rw [updn (by omega), updn (by omega), upde]
    unfold co at hb
    unfold tl at h1 hb
    rw [ts (by omega)]; omega
  · unfold co
    rw [updn (by omega), updn (by omega), updn (by omega)]
  · unfold tl
    rw [updn (by omega), updn (by omega), updn (by omega)]
  · omega
  · omega
theorem nn_neg6 {c : Nat} (hc : c < 2 ^ 31) : ¬ nI c = -6 := fun q => by
  have h1 : (nI c).toInt = -6 := by rw [q]; decide
  rw [nI_toInt hc] at h1
  omega
/-- who stops waiting -/
theorem st10 {w : Row} {c : Nat} (hc : c < 8) (hr : Rn w) : nn (sX7_stopsWaiting w c 10) = (((qs w).filter (fun x => decide (x ≠ c))).length) := by rw [← qs_len, st_qs hc hr]
theorem Inv_stops {w : Row} {c : Nat} (hc : c < nn (w 6)) (h : Inv w) : Inv (sX7_stopsWaiting w c) := by
  obtain ⟨hR, hQ, hZ, hW, hI, hG, hM, hS, hT⟩ := h
  have h6 := hR.1.2.2.le
  have hc8 : c < 8 := by omega
  have E : ∀ j, ¬ j = 10 → ¬ (12 ≤ j ∧ j < 20) → ¬ j = 104 + 8 * c + 2 → ¬ j = 104 + 8 * c + 3 → ¬ j = 104 + 8 * c + 4 → sX7_stopsWaiting w c j = w j := fun j h1 h2 h3 h4 h5 => by
    rw [st_else hc8 hR h1 h2, updn h5, updn h4, updn h3]
  have e2 : sX7_stopsWaiting w c (104 + 8 * c + 2) = -6 := by rw [st_else hc8 hR (by omega) (by omega), updn (by omega), updn (by omega), upde]
  have e3 : sX7_stopsWaiting w c (104 + 8 * c + 3) = -6 := by rw [st_else hc8 hR (by omega) (by omega), updn (by omega), upde]
  have e4 : sX7_stopsWaiting w c (104 + 8 * c + 4) = 0 := by rw [st_else hc8 hR (by omega) (by omega), upde]
  have e5 := E 5 (by omega) (by omega) (by omega) (by omega) (by omega)
  have e6 := E 6 (by omega) (by omega) (by omega) (by omega) (by omega)
  refine ⟨Rn_stops hc8 hR, ?_, ?_, ?_, ?_, ?_, ?_, ?_, ?_⟩
  · unfold IQ
    rw [st_qs hc8 hR, e5, e6]
    refine ⟨hQ.1.filter _, fun x hx => ?_, fun x hx => ?_⟩
    · obtain ⟨hx1, hx2⟩ := List.mem_filter.mp hx
      have hxc : ¬ x = c := by simpa using hx2
      have := hQ.2.1 x hx1
      rw [E _ (by omega) (by omega) (by omega) (by omega) (by omega)]; exact this
    · by_cases e : x = c
      · subst e; exact Or.inl e2
      · rw [E _ (by omega) (by omega) (by omega) (by omega) (by omega)]
        rcases hQ.2.2 x hx with q | q
        · exact Or.inl q
        · exact Or.inr (List.mem_filter.mpr ⟨q, by simpa using e⟩)
  · refine ⟨fun i hi hn => ?_, fun c' hc' hn => ?_, fun c' i hc' hi hn hm => ?_, fun c' i hc' hi hn => ?_⟩
    · rw [e5] at hn
      rw [E _ (by omega) (by omega) (by omega) (by omega) (by omega), E _ (by omega) (by omega) (by omega) (by omega) (by omega), E _ (by omega) (by omega) (by omega) (by omega) (by omega)]; exact hZ.1 i hi hn
    · rw [e6] at hn
      rw [E _ (by omega) (by omega) (by omega) (by omega) (by omega), E _ (by omega) (by omega) (by omega) (by omega) (by omega), E _ (by omega) (by omega) (by omega) (by omega) (by omega), E _ (by omega) (by omega) (by omega) (by omega) (by omega), E _ (by omega) (by omega) (by omega) (by omega) (by omega)]; exact hZ.2.1 c' hc' hn
    · rw [e5] at hn
      rw [e6] at hm
      rw [E _ (by omega) (by omega) (by omega) (by omega) (by omega), E _ (by omega) (by omega) (by omega) (by omega) (by omega), E _ (by omega) (by omega) (by omega) (by omega) (by omega)]; exact hZ.2.2.1 c' i hc' hi hn hm
    · rw [e5] at hn
      rw [E _ (by omega) (by omega) (by omega) (by omega) (by omega), E _ (by omega) (by omega) (by omega) (by omega) (by omega)]; exact hZ.2.2.2 c' i hc' hi hn
  · intro c' hc' hq
    by_cases e : c' = c
    · subst e; exact e4
    · rw [E _ (by omega) (by omega) (by omega) (by omega) (by omega)] at hq ⊢; exact hW c' hc' hq
  · intro c' i hc' hi hn
    rw [e5] at hn
    rw [E _ (by omega) (by omega) (by omega) (by omega) (by omega), E _ (by omega) (by omega) (by omega) (by omega) (by omega), E _ (by omega) (by omega) (by omega) (by omega) (by omega)]; exact hI c' i hc' hi hn
  · refine ⟨by rw [E _ (by omega) (by omega) (by omega) (by omega) (by omega)]; exact hG.1, fun i hi => ?_, fun c' hc' => ?_⟩
    · rw [E _ (by omega) (by omega) (by omega) (by omega) (by omega)]; exact hG.2.1 i hi
    · by_cases e : c' = c
      · subst e; exact Or.inl e2
      · rw [E _ (by omega) (by omega) (by omega) (by omega) (by omega), E _ (by omega) (by omega) (by omega) (by omega) (by omega)]; exact hG.2.2 c' hc'
  · have m1 : ∀ k, k < 8 → co (sX7_stopsWaiting w c) k = co w k := fun k hk => congrArg Int32.toInt (E _ (by omega) (by omega) (by omega) (by omega) (by omega))
    have m2 : ∀ k, k < 12 → tl (sX7_stopsWaiting w c) k = tl w k := fun k hk => congrArg Int32.toInt (E _ (by omega) (by omega) (by omega) (by omega) (by omega))
    refine ⟨fun k hk => by rw [m1 k hk]; exact hM.1 k hk, fun k hk => by rw [m2 k hk]; exact hM.2.1 k hk, ?_, ?_⟩
    · rw [sumN_congr 8 m1, sumN_congr 12 m2, E 8 (by omega) (by omega) (by omega) (by omega) (by omega)]; exact hM.2.2.1
    · rw [e6, E 8 (by omega) (by omega) (by omega) (by omega) (by omega)]; exact hM.2.2.2
  · unfold IS
    rw [E 0 (by omega) (by omega) (by omega) (by omega) (by omega), E 1 (by omega) (by omega) (by omega) (by omega) (by omega), E 2 (by omega) (by omega) (by omega) (by omega) (by omega), E 3 (by omega) (by omega) (by omega) (by omega) (by omega)]; exact hS
  · refine ⟨fun c' hc' => ?_, IX_congr (fun k hk => E _ (by omega) (by omega) (by omega) (by omega) (by omega)) (fun k hk => E _ (by omega) (by omega) (by omega) (by omega) (by omega)) hT.2⟩
    rw [E _ (by omega) (by omega) (by omega) (by omega) (by omega)]; exact hT.1 c' hc'
