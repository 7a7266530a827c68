/-! steps that keep what holds: coins, ties, ways over a bridge -/
theorem WI_free {w : Row} {j : Nat} {v : Int32} (hf : j = 9 ∨ (20 ≤ j ∧ j < 104 ∧ (j - 20) % 7 = 6)) (h : WI w) : WI (upd w j v) := by
  have E : ∀ j', ¬ j' = j → upd w j v j' = w j' := fun j' hj => updn hj
  exact ⟨WA_c (fun j hj => E j (by omega)) h.a, WQ_c (fun j hj => E j (by omega)) h.a h.q, WN_c (fun j hj => E j (by omega)) h.n, WK_c (fun j hj => E j (by omega)) h.a h.q h.k, WB_c (fun j hj => E j (by omega)) h.b, WR_c (fun j hj => E j (by omega)) h.r, WE_c (fun j hj => E j (by omega)) h.e, WD_c (fun j hj => E j (by omega)) h.a h.q h.d, WT_c (fun j hj => E j (by omega)) h.t, WM_c (fun j hj => E j (by omega)) h.m, WX_c (fun j hj => E j (by omega)) h.x, WP_c (fun j hj => E j (by omega)) h.p, WZ_c (fun j hj => E j (by omega)) h.z, WS_c (fun j hj => E j (by omega)) h.s⟩
theorem WM_b {w : Row} {c i : Nat} (hc : c < 8) (hi : i < 12) (h8 : nn (w 6) ≤ 8) (h : WM w) : co w c + tl w i ≤ 79992 ∧ 0 ≤ co w c ∧ 0 ≤ tl w i := by
  have a := sumN_le (f := co w) 8 hc h.1
  have b := sumN_le (f := tl w) 12 hi h.2.1
  have := h.2.2.1
  have := h.2.2.2
  exact ⟨by omega, h.1 c hc, h.2.1 i hi⟩
theorem WM_move {w w' : Row} {c i : Nat} {d : Int} (hc : c < 8) (hi : i < 12) (h8 : w' 8 = w 8) (h6 : w' 6 = w 6) (e1 : co w' c = co w c - d) (e2 : tl w' i = tl w i + d)
    (n1 : ∀ k, k < 8 → ¬ k = c → co w' k = co w k) (n2 : ∀ k, k < 12 → ¬ k = i → tl w' k = tl w k) (p1 : 0 ≤ co w c - d) (p2 : 0 ≤ tl w i + d) (h : WM w) : WM w' := by
  refine ⟨fun k hk => ?_, fun k hk => ?_, ?_, ?_⟩
  · by_cases e : k = c
    · subst e; rw [e1]; exact p1
    · rw [n1 k hk e]; exact h.1 k hk
  · by_cases e : k = i
    · subst e; rw [e2]; exact p2
    · rw [n2 k hk e]; exact h.2.1 k hk
  · rw [sumN_one 8 hc n1, sumN_one 12 hi n2, e1, e2, h8]
    have := h.2.2.1
    omega
  · rw [h8, h6]; exact h.2.2.2
/-- coins of a cart that go into a till, or come out of it -/
theorem WI_move {w w' : Row} {c i : Nat} {x : Int32} {d : Int} (hc : c < nn (w 6)) (hi : i < nn (w 5)) (hd : x.toInt = d) (E : ∀ j, ¬ j = 104 + 8 * c + 1 → ¬ j = 104 + 8 * c + 6 → ¬ j = 104 + 8 * c + 7 → ¬ j = 20 + 7 * i + 4 → w' j = w j)
    (e1 : w' (104 + 8 * c + 1) = w (104 + 8 * c + 1) - x) (e2 : w' (20 + 7 * i + 4) = w (20 + 7 * i + 4) + x) (e3 : w' (104 + 8 * c + 6) - w' (104 + 8 * c + 7) = w (104 + 8 * c + 6) - w (104 + 8 * c + 7) + x)
    (p1 : 0 ≤ co w c - d) (p2 : 0 ≤ tl w i + d) (h : WI w) : WI w' := by
  have h6 := h.a.n6
  have h5 := h.a.n5
  have hb := WM_b (c := c) (i := i) (by omega) (by omega) h6 h.m
  have E2 : ∀ j, ¬ (j = 104 + 8 * c + 1 ∨ j = 104 + 8 * c + 6 ∨ j = 104 + 8 * c + 7 ∨ j = 20 + 7 * i + 4) → w' j = w j := fun j hj => E j (by omega) (by omega) (by omega) (by omega)
  refine ⟨WA_c (fun j hj => E2 j (by omega)) h.a, WQ_c (fun j hj => E2 j (by omega)) h.a h.q, WN_c (fun j hj => E2 j (by omega)) h.n, WK_c (fun j hj => E2 j (by omega)) h.a h.q h.k, WB_c (fun j hj => E2 j (by omega)) h.b, WR_c (fun j hj => E2 j (by omega)) h.r, WE_c (fun j hj => E2 j (by omega)) h.e, WD_c (fun j hj => E2 j (by omega)) h.a h.q h.d, WT_c (fun j hj => E2 j (by omega)) h.t, ?_, WX_c (fun j hj => E2 j (by omega)) h.x, ?_, ?_, WS_c (fun j hj => E2 j (by omega)) h.s⟩
  · refine WM_move (c := c) (i := i) (d := d) (by omega) (by omega) (E2 8 (by omega)) (E2 6 (by omega)) ?_ ?_ (fun k hk hkc => ?_) (fun k hk hki => ?_) p1 p2 h.m
    · unfold co at hb p1 ⊢
      unfold tl at hb p2
      rw [e1, ts (by omega), hd]
    · unfold co at hb p1
      unfold tl at hb p2 ⊢
      rw [e2, ta (by omega), hd]
    · exact congrArg Int32.toInt (E2 _ (by omega))
    · exact congrArg Int32.toInt (E2 _ (by omega))
  · unfold WP
    rw [sumI_one (f := fun k => w' (104 + 8 * k + 6) - w' (104 + 8 * k + 7)) (g := fun k => w (104 + 8 * k + 6) - w (104 + 8 * k + 7)) (c := c) (d := x) e3 8 (by omega) (fun k hk hkc => by
        show w' (104 + 8 * k + 6) - w' (104 + 8 * k + 7) = w (104 + 8 * k + 6) - w (104 + 8 * k + 7)
        rw [E2 _ (by omega), E2 _ (by omega)]),
      sumI_one (f := fun k => w' (20 + 7 * k + 4)) (g := fun k => w (20 + 7 * k + 4)) (c := i) (d := x) e2 12 (by omega) (fun k hk hki => E2 _ (by omega)), h.p]
  · refine ⟨fun k hk hn => ?_, fun k hk hn => ?_⟩
    · rw [E2 5 (by omega)] at hn
      rw [E2 _ (by omega), E2 _ (by omega)]; exact h.z.1 k hk hn
    · rw [E2 6 (by omega)] at hn
      rw [E2 _ (by omega), E2 _ (by omega), E2 _ (by omega), E2 _ (by omega)]; exact h.z.2 k hk hn
theorem sub_add_cancel' {a b x : Int32} : a + x - b = a - b + x := by
  rw [Int32.sub_eq_add_neg, Int32.sub_eq_add_neg, Int32.add_assoc, Int32.add_comm x, ← Int32.add_assoc]
theorem WI_pay {w : Row} {c i : Nat} {x : Int32} (hc : c < nn (w 6)) (hi : i < nn (w 5)) (h0 : 0 ≤ x.toInt) (h1 : x.toInt ≤ co w c) (h : WI w) : WI (sX1_pay w c x i) := by
  have h6 := h.a.n6
  have h5 := h.a.n5
  have ht := h.m.2.1 i (by omega)
  unfold sX1_pay
  refine WI_move (x := x) (d := x.toInt) hc hi rfl (fun j a b _ d => by rw [updn d, updn b, updn a]) ?_ ?_ ?_ (by omega) (by omega) h
  · rw [updn (by omega), updn (by omega), upde]
  · rw [upde, updn (by omega), updn (by omega)]
  · rw [updn (by omega), upde, updn (by omega), updn (by omega), updn (by omega), updn (by omega), sub_add_cancel']
theorem min_le {a b : Int32} (h0 : 0 ≤ a.toInt) (h1 : 0 ≤ b.toInt) : 0 ≤ (if a < b then a else b).toInt ∧ (if a < b then a else b).toInt ≤ a.toInt ∧ (if a < b then a else b).toInt ≤ b.toInt := by
  by_cases q : a < b
  · rw [if_pos q]
    rw [Int32.lt_iff_toInt_lt] at q
    omega
  · rw [if_neg q]
    rw [Int32.lt_iff_toInt_lt] at q
    omega
theorem neg_toInt {x : Int32} {n : Nat} (h0 : 0 ≤ x.toInt) (h1 : x.toInt ≤ n) (hn : n < 2 ^ 31) : (-x).toInt = - x.toInt := by
  have e0 : (0 : Int32).toInt = 0 := by decide
  rw [← Int32.zero_sub, ts (by omega), e0]; omega
theorem WI_gift {w : Row} {c i : Nat} {x : Int32} (hc : c < nn (w 6)) (hi : i < nn (w 5)) (h0 : 0 ≤ x.toInt) (h : WI w) : WI (sX1_takeGift w c x i) := by
  have h6 := h.a.n6
  have h5 := h.a.n5
  have hm := min_le (a := w (20 + 7 * i + 4)) (b := x) (h.m.2.1 i (by omega)) h0
  have hb := WM_b (c := c) (i := i) (by omega) (by omega) h6 h.m
  unfold sX1_takeGift
  generalize (if w (20 + 7 * i + 4) < x then w (20 + 7 * i + 4) else x) = y at hm ⊢
  obtain ⟨m0, m1, m2⟩ := hm
  have ht : y.toInt ≤ tl w i := m1
  have hn : (-y).toInt = - y.toInt := neg_toInt (n := 79992) m0 (by omega) (by omega)
  refine WI_move (x := -y) (d := - y.toInt) hc hi hn (fun j a _ b d => by rw [updn b, updn a, updn d]) ?_ ?_ ?_ (by omega) (by omega) h
  · rw [updn (by omega), upde, updn (by omega), Int32.sub_eq_add_neg, Int32.neg_neg]
  · rw [updn (by omega), updn (by omega), upde, Int32.sub_eq_add_neg]
  · rw [upde, updn (by omega), updn (by omega), updn (by omega), updn (by omega), updn (by omega)]
    rw [Int32.sub_eq_add_neg, Int32.sub_eq_add_neg, Int32.neg_add, Int32.sub_eq_add_neg, ← Int32.add_assoc]
/-- who came over: its town, how often it and the bridge -/
theorem WI_cross {w : Row} {c i : Nat} {t : Int32} (hc : c < nn (w 6)) (hi : i < nn (w 5)) (hw : w (104 + 8 * c + 2) = -6) (ht : sm t 7) (h : WI w) : WI (upd (upd (upd w (104 + 8 * c) t) (104 + 8 * c + 5) (w (104 + 8 * c + 5) + 1)) (20 + 7 * i + 5) (w (20 + 7 * i + 5) + 1)) := by
  have h6 := h.a.n6
  have h5 := h.a.n5
  have E : ∀ j, ¬ (j = 104 + 8 * c ∨ j = 104 + 8 * c + 5 ∨ j = 20 + 7 * i + 5) → upd (upd (upd w (104 + 8 * c) t) (104 + 8 * c + 5) (w (104 + 8 * c + 5) + 1)) (20 + 7 * i + 5) (w (20 + 7 * i + 5) + 1) j = w j := fun j hj => by rw [updn (by omega), updn (by omega), updn (by omega)]
  refine ⟨WA_c (fun j hj => E j (by omega)) h.a, WQ_c (fun j hj => E j (by omega)) h.a h.q, WN_c (fun j hj => E j (by omega)) h.n, WK_c (fun j hj => E j (by omega)) h.a h.q h.k, WB_c (fun j hj => E j (by omega)) h.b, WR_c (fun j hj => E j (by omega)) h.r, ?_, WD_c (fun j hj => E j (by omega)) h.a h.q h.d, ?_, WM_c (fun j hj => E j (by omega)) h.m, ?_, WP_c (fun j hj => E j (by omega)) h.p, ?_, WS_c (fun j hj => E j (by omega)) h.s⟩
  · intro k j hk hj hq
    have hkc : ¬ k = c := fun e => by
      subst e
      rw [E _ (by omega), hw] at hq
      exact nn_neg6 (by omega) hq.symm
    rw [E _ (by omega)] at hq
    rw [E (104 + 8 * k) (by omega), E (20 + 7 * j) (by omega), E (20 + 7 * j + 1) (by omega), E (104 + 8 * k + 3) (by omega), E (20 + 7 * j + 2) (by omega), E (104 + 8 * k + 4) (by omega), E 4 (by omega)]
    exact h.e k j hk hj hq
  · intro k hk
    by_cases e : k = c
    · subst e; rw [updn (by omega), updn (by omega), upde]; exact ht
    · rw [E _ (by omega)]; exact h.t k hk
  · unfold WX
    rw [sumI_one (f := fun k => upd (upd (upd w (104 + 8 * c) t) (104 + 8 * c + 5) (w (104 + 8 * c + 5) + 1)) (20 + 7 * i + 5) (w (20 + 7 * i + 5) + 1) (104 + 8 * k + 5)) (g := fun k => w (104 + 8 * k + 5)) (c := c) (d := 1) (by
        show upd (upd (upd w (104 + 8 * c) t) (104 + 8 * c + 5) (w (104 + 8 * c + 5) + 1)) (20 + 7 * i + 5) (w (20 + 7 * i + 5) + 1) (104 + 8 * c + 5) = w (104 + 8 * c + 5) + 1
        rw [updn (by omega), upde]) 8 (by omega) (fun k hk hkc => E _ (by omega)),
      sumI_one (f := fun k => upd (upd (upd w (104 + 8 * c) t) (104 + 8 * c + 5) (w (104 + 8 * c + 5) + 1)) (20 + 7 * i + 5) (w (20 + 7 * i + 5) + 1) (20 + 7 * k + 5)) (g := fun k => w (20 + 7 * k + 5)) (c := i) (d := 1) (by
        show upd (upd (upd w (104 + 8 * c) t) (104 + 8 * c + 5) (w (104 + 8 * c + 5) + 1)) (20 + 7 * i + 5) (w (20 + 7 * i + 5) + 1) (20 + 7 * i + 5) = w (20 + 7 * i + 5) + 1
        rw [upde]) 12 (by omega) (fun k hk hkc => E _ (by omega)), h.x]
  · refine ⟨fun k hk hn => ?_, fun k hk hn => ?_⟩
    · rw [E 5 (by omega)] at hn
      rw [E _ (by omega), E _ (by omega)]; exact h.z.1 k hk hn
    · rw [E 6 (by omega)] at hn
      rw [E _ (by omega), E _ (by omega), E _ (by omega), E _ (by omega)]; exact h.z.2 k hk hn
