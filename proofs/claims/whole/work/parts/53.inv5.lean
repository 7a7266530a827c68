/-- while a cart waits nowhere, there is room in the queue -/
theorem room {w : Row} {c : Nat} (hc : c < nn (w 6)) (ha : w (104 + 8 * c + 2) = -6) (h : Inv w) : nn (w 10) < 8 ∧ ¬ c ∈ qs w := by
  have h6 := h.1.1.2.2.le
  have hn : ¬ c ∈ qs w := fun q => by
    obtain ⟨a1, i, a2, a3⟩ := h.2.1.2.1 c q
    have := h.1.1.2.1.le
    exact nn_neg6 (c := i) (by omega) (a3.symm.trans ha)
  have hd : (c :: qs w).Nodup := List.nodup_cons.mpr ⟨hn, h.2.1.1⟩
  have hs : (c :: qs w) ⊆ List.range 8 := fun x hx => by
    rcases List.mem_cons.mp hx with e | e
    · rw [e]; exact List.mem_range.mpr (by omega)
    · exact List.mem_range.mpr (qs_8 h.1 x e)
  have := hd.length_le_of_subset hs
  rw [List.length_cons, qs_len, List.length_range] at this
  exact ⟨by omega, hn⟩
def gsw (w : Row) (c i : Nat) (z : Int32) : Row := upd (upd (upd (upd (upd w (104 + 8 * c + 2) (nI i)) (104 + 8 * c + 3) z) (104 + 8 * c + 4) 0) (12 + (nn (w 10))) (nI c)) 10 (w 10 + 1)
theorem guesses_eq {w : Row} {c i : Nat} {z : Int32} (h8 : nn (w 10) < 8) : sX7_guesses w c i z = (sX7_many (gsw w c i z) i, gsw w c i z) := by
  have e : (upd (upd (upd (upd w (104 + 8 * c + 2) (nI i)) (104 + 8 * c + 3) z) (104 + 8 * c + 4) 0) (12 + (nn (w 10))) (nI c)) 10 = w 10 := by rw [updn (by omega), updn (by omega), updn (by omega), updn (by omega)]
  unfold sX7_guesses gsw
  rw [e]
theorem gsw_o {w : Row} {c i j : Nat} {z : Int32} (h8 : nn (w 10) < 8) (h1 : ¬ j = 10) (h2 : ¬ (12 ≤ j ∧ j < 20)) (h3 : ¬ j = 104 + 8 * c + 2) (h4 : ¬ j = 104 + 8 * c + 3) (h5 : ¬ j = 104 + 8 * c + 4) : gsw w c i z j = w j := by
  unfold gsw
  rw [updn h1, updn (by omega), updn h5, updn h4, updn h3]
theorem gsw_f {w : Row} {c i : Nat} {z : Int32} (h8 : nn (w 10) < 8) : gsw w c i z (104 + 8 * c + 2) = nI i ∧ gsw w c i z (104 + 8 * c + 3) = z ∧ gsw w c i z (104 + 8 * c + 4) = 0 ∧ gsw w c i z 10 = w 10 + 1 ∧ gsw w c i z (12 + nn (w 10)) = nI c := by
  unfold gsw
  refine ⟨?_, ?_, ?_, upde, ?_⟩
  · rw [updn (by omega), updn (by omega), updn (by omega), updn (by omega), upde]
  · rw [updn (by omega), updn (by omega), updn (by omega), upde]
  · rw [updn (by omega), updn (by omega), upde]
  · rw [updn (by omega), upde]
theorem gsw_q {w : Row} {c i k : Nat} {z : Int32} (hk : k < 8) (hn : ¬ k = nn (w 10)) : gsw w c i z (12 + k) = w (12 + k) := by
  unfold gsw
  rw [updn (by omega), updn (by omega), updn (by omega), updn (by omega), updn (by omega)]
theorem gsw_qs {w : Row} {c i : Nat} {z : Int32} (hc : c < 8) (h8 : nn (w 10) < 8) (hcn : Cn w) : qs (gsw w c i z) = qs w ++ [c] := by
  have n10 := nn_inc hcn.1 (by omega)
  obtain ⟨-, -, -, f10, fq⟩ := gsw_f (w := w) (c := c) (i := i) (z := z) h8
  unfold qs
  rw [f10, n10.1, ql_snoc, Nat.zero_add, fq, nn_nI (by omega)]
  congr 1
  exact ql_congr _ _ (fun k h1 h2 => gsw_q (by omega) (by omega))
theorem Inv_gsw {w : Row} {c i : Nat} {z : Int32} (hc : c < nn (w 6)) (ha : w (104 + 8 * c + 2) = -6) (hi : i < nn (w 5)) (hz : sm z 999) (h : Inv w) : Inv (gsw w c i z) := by
  obtain ⟨h8, hcq⟩ := room hc ha h
  obtain ⟨hR, hQ, hZ, hW, hI, hG, hM, hS, hT⟩ := h
  have h6 := hR.1.2.2.le
  have h5 := hR.1.2.1.le
  have n10 := nn_inc hR.1.1 (by omega)
  have E : ∀ j, ¬ j = 10 → ¬ (12 ≤ j ∧ j < 20) → ¬ j = 104 + 8 * c + 2 → ¬ j = 104 + 8 * c + 3 → ¬ j = 104 + 8 * c + 4 → gsw w c i z j = w j := fun j h1 h2 h3 h4 h5 => gsw_o h8 h1 h2 h3 h4 h5
  obtain ⟨f2, f3, f4, f10, fq⟩ := gsw_f (w := w) (c := c) (i := i) (z := z) h8
  have e5 := E 5 (by omega) (by omega) (by omega) (by omega) (by omega)
  have e6 := E 6 (by omega) (by omega) (by omega) (by omega) (by omega)
  have n6 : ¬ nI i = -6 := nn_neg6 (by omega)
  refine ⟨⟨⟨by rw [f10]; exact sm_lt n10.2 (by rw [n10.1]; omega), by rw [e5]; exact hR.1.2.1, by rw [e6]; exact hR.1.2.2⟩, fun k hk => ?_, fun i' hi' => ?_, fun i' hi' hn => ?_⟩, ?_, ⟨fun i' hi' hn => ?_, fun c' hc' hn => ?_, fun c' i' hc' hi' hn hm => ?_, fun c' i' hc' hi' hn => ?_⟩, fun c' hc' hq => ?_, fun c' i' hc' hi' hn => ?_, ?_, ?_, ?_, ⟨fun c' hc' => ?_, IX_congr (fun k hk => E _ (by omega) (by omega) (by omega) (by omega) (by omega)) (fun k hk => E _ (by omega) (by omega) (by omega) (by omega) (by omega)) hT.2⟩⟩
  · by_cases e : k = nn (w 10)
    · rw [e, fq]; exact sm_nI (by omega) (by omega)
    · rw [gsw_q hk e]; exact hR.2.1 k hk
  · rw [E _ (by omega) (by omega) (by omega) (by omega) (by omega), E _ (by omega) (by omega) (by omega) (by omega) (by omega), E _ (by omega) (by omega) (by omega) (by omega) (by omega)]; exact hR.2.2.1 i' hi'
  · rw [e5] at hn
    rw [E _ (by omega) (by omega) (by omega) (by omega) (by omega)]; exact hR.2.2.2 i' hi' hn
  · unfold IQ
    rw [gsw_qs (by omega) h8 hR.1, e6, e5]
    refine ⟨?_, fun x hx => ?_, fun x hx => ?_⟩
    · rw [List.nodup_append]
      exact ⟨hQ.1, by simp, fun a ha b hb => by rw [List.mem_singleton.mp hb]; exact fun e => hcq (by rw [← e]; exact ha)⟩
    · rcases List.mem_append.mp hx with q | q
      · have hne : ¬ x = c := fun e => hcq (by rw [← e]; exact q)
        have := hQ.2.1 x q
        rw [E _ (by omega) (by omega) (by omega) (by omega) (by omega)]; exact this
      · rw [List.mem_singleton.mp q]
        exact ⟨hc, i, hi, f2⟩
    · by_cases e : x = c
      · subst e; exact Or.inr (List.mem_append.mpr (Or.inr (List.mem_singleton.mpr rfl)))
      · rw [E _ (by omega) (by omega) (by omega) (by omega) (by omega)]
        rcases hQ.2.2 x hx with q | q
        · exact Or.inl q
        · exact Or.inr (List.mem_append.mpr (Or.inl q))
  · rw [e5] at hn
    rw [E _ (by omega) (by omega) (by omega) (by omega) (by omega), E _ (by omega) (by omega) (by omega) (by omega) (by omega), E _ (by omega) (by omega) (by omega) (by omega) (by omega)]; exact hZ.1 i' hi' hn
  · rw [e6] at hn
    rw [E _ (by omega) (by omega) (by omega) (by omega) (by omega), E _ (by omega) (by omega) (by omega) (by omega) (by omega), E _ (by omega) (by omega) (by omega) (by omega) (by omega), E _ (by omega) (by omega) (by omega) (by omega) (by omega), E _ (by omega) (by omega) (by omega) (by omega) (by omega)]; exact hZ.2.1 c' hc' hn
  · rw [e5] at hn
    rw [e6] at hm
    rw [E _ (by omega) (by omega) (by omega) (by omega) (by omega), E _ (by omega) (by omega) (by omega) (by omega) (by omega), E _ (by omega) (by omega) (by omega) (by omega) (by omega)]; exact hZ.2.2.1 c' i' hc' hi' hn hm
  · rw [e5] at hn
    rw [E _ (by omega) (by omega) (by omega) (by omega) (by omega), E _ (by omega) (by omega) (by omega) (by omega) (by omega)]; exact hZ.2.2.2 c' i' hc' hi' hn
  · by_cases e : c' = c
    · subst e; exact f4
    · rw [E _ (by omega) (by omega) (by omega) (by omega) (by omega)] at hq ⊢; exact hW c' hc' hq
  · rw [e5] at hn
    rw [E _ (by omega) (by omega) (by omega) (by omega) (by omega), E _ (by omega) (by omega) (by omega) (by omega) (by omega), E _ (by omega) (by omega) (by omega) (by omega) (by omega)]; exact hI c' i' hc' hi' hn
  · refine ⟨by rw [E _ (by omega) (by omega) (by omega) (by omega) (by omega)]; exact hG.1, fun i' hi' => ?_, fun c' hc' => ?_⟩
    · rw [E _ (by omega) (by omega) (by omega) (by omega) (by omega)]; exact hG.2.1 i' hi'
    · by_cases e : c' = c
      · subst e; rw [f3]; exact Or.inr hz
      · rw [E _ (by omega) (by omega) (by omega) (by omega) (by omega), E _ (by omega) (by omega) (by omega) (by omega) (by omega)]; exact hG.2.2 c' hc'
  · have m1 : ∀ k, k < 8 → co (gsw w c i z) k = co w k := fun k hk => congrArg Int32.toInt (E _ (by omega) (by omega) (by omega) (by omega) (by omega))
    have m2 : ∀ k, k < 12 → tl (gsw w c i z) k = tl w k := fun k hk => congrArg Int32.toInt (E _ (by omega) (by omega) (by omega) (by omega) (by omega))
    refine ⟨fun k hk => by rw [m1 k hk]; exact hM.1 k hk, fun k hk => by rw [m2 k hk]; exact hM.2.1 k hk, ?_, ?_⟩
    · rw [sumN_congr 8 m1, sumN_congr 12 m2, E 8 (by omega) (by omega) (by omega) (by omega) (by omega)]; exact hM.2.2.1
    · rw [e6, E 8 (by omega) (by omega) (by omega) (by omega) (by omega)]; exact hM.2.2.2
  · unfold IS
    rw [E 0 (by omega) (by omega) (by omega) (by omega) (by omega), E 1 (by omega) (by omega) (by omega) (by omega) (by omega), E 2 (by omega) (by omega) (by omega) (by omega) (by omega), E 3 (by omega) (by omega) (by omega) (by omega) (by omega)]; exact hS
  · rw [E _ (by omega) (by omega) (by omega) (by omega) (by omega)]; exact hT.1 c' hc'
/-- a range that gets new ends -/
theorem Inv_rng {w : Row} {c i : Nat} {a b : Int32} (hc : c < nn (w 6)) (hi : i < nn (w 5)) (h0 : 0 ≤ a.toInt) (h1 : a.toInt ≤ b.toInt) (h2 : b.toInt < (w (20 + 7 * i + 2)).toInt) (h : Inv w) : Inv (upd (upd w (168 + 2 * (12 * c + i)) a) (168 + 2 * (12 * c + i) + 1) b) := by
  obtain ⟨hR, hQ, hZ, hW, hI, hG, hM, hS, hT⟩ := h
  have h6 := hR.1.2.2.le
  have h5 := hR.1.2.1.le
  have E : ∀ j, ¬ j = 168 + 2 * (12 * c + i) → ¬ j = 168 + 2 * (12 * c + i) + 1 → upd (upd w (168 + 2 * (12 * c + i)) a) (168 + 2 * (12 * c + i) + 1) b j = w j := fun j p q => by rw [updn q, updn p]
  have hcn1 : Cn (upd w (168 + 2 * (12 * c + i)) a) := Cn_upd (by omega) (by omega) (by omega) hR.1
  refine ⟨Rn_upd (by unfold bad; omega) (Rn_upd (by unfold bad; omega) hR), IQ_upd hcn1 (by omega) (by omega) (by omega) (by omega) (fun c hc => by omega) (IQ_upd hR.1 (by omega) (by omega) (by omega) (by omega) (fun c hc => by omega) hQ), ⟨fun i' hi' hn => ?_, fun c' hc' hn => ?_, fun c' i' hc' hi' hn hm => ?_, fun c' i' hc' hi' hn => ?_⟩,
    IW_upd (fun c hc => by omega) (IW_upd (fun c hc => by omega) hW), fun c' i' hc' hi' hn => ?_, IG_upd (by omega) (fun i hi => by omega) (fun c hc => by omega) (IG_upd (by omega) (fun i hi => by omega) (fun c hc => by omega) hG),
    IM_upd (by omega) (by omega) (fun i hi => by omega) (fun c hc => by omega) (IM_upd (by omega) (by omega) (fun i hi => by omega) (fun c hc => by omega) hM), IS_upd (by omega) (IS_upd (by omega) hS), IT_upd (fun c hc => by omega) (fun i hi => by omega) (IT_upd (fun c hc => by omega) (fun i hi => by omega) hT)⟩
  · rw [E _ (by omega) (by omega)] at hn
    rw [E _ (by omega) (by omega), E _ (by omega) (by omega), E _ (by omega) (by omega)]; exact hZ.1 i' hi' hn
  · rw [E _ (by omega) (by omega)] at hn
    rw [E _ (by omega) (by omega), E _ (by omega) (by omega), E _ (by omega) (by omega), E _ (by omega) (by omega), E _ (by omega) (by omega)]; exact hZ.2.1 c' hc' hn
  · rw [E _ (by omega) (by omega)] at hn hm
    rw [E _ (by omega) (by omega), E _ (by omega) (by omega), E _ (by omega) (by omega)]; exact hZ.2.2.1 c' i' hc' hi' hn hm
  · rw [E _ (by omega) (by omega)] at hn
    rw [E _ (by omega) (by omega), E _ (by omega) (by omega)]; exact hZ.2.2.2 c' i' hc' hi' hn
  · rw [E _ (by omega) (by omega)] at hn
    by_cases e : c' = c ∧ i' = i
    · obtain ⟨rfl, rfl⟩ := e
      rw [upde, updn (show ¬ 168 + 2 * (12 * c' + i') = 168 + 2 * (12 * c' + i') + 1 by omega), upde, E (20 + 7 * i' + 2) (by omega) (by omega)]
      exact ⟨h0, h1, h2⟩
    · rw [E _ (by omega) (by omega), E _ (by omega) (by omega), E _ (by omega) (by omega)]; exact hI c' i' hc' hi' hn
theorem Inv_set {w : Row} {j : Nat} {v : Int32} (hj : j < 4) (hv : sm v 50) (h : Inv w) : Inv (upd w j v) := by
  obtain ⟨hR, hQ, hZ, hW, hI, hG, hM, hS, hT⟩ := h
  refine ⟨Rn_upd (by unfold bad; omega) hR, IQ_upd hR.1 (by omega) (by omega) (by omega) (by omega) (fun c hc => by omega) hQ, IZ_upd (by unfold zp; omega) hZ,
    IW_upd (fun c hc => by omega) hW, IR_upd (by omega) (by omega) (fun i hi => by omega) hI, IG_upd (by omega) (fun i hi => by omega) (fun c hc => by omega) hG,
    IM_upd (by omega) (by omega) (fun i hi => by omega) (fun c hc => by omega) hM, ?_, IT_upd (fun c hc => by omega) (fun i hi => by omega) hT⟩
  have A : ∀ k, k < 4 → sm (w k) 50 → sm (upd w j v k) 50 := fun k hk hw => by
    by_cases e : k = j
    · subst e; rw [upde]; exact hv
    · rw [updn e]; exact hw
  exact ⟨A 0 (by omega) hS.1, A 1 (by omega) hS.2.1, A 2 (by omega) hS.2.2.1, A 3 (by omega) hS.2.2.2⟩
