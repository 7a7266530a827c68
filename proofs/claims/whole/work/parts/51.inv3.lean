theorem st5 {w : Row} {c : Nat} (hc : c < 8) (hr : Rn w) : sX7_stopsWaiting w c 5 = w 5 ∧ sX7_stopsWaiting w c 6 = w 6 := by
  constructor
  · rw [st_else hc hr (by omega) (by omega), updn (by omega), updn (by omega), updn (by omega)]
  · rw [st_else hc hr (by omega) (by omega), updn (by omega), updn (by omega), updn (by omega)]
theorem u5 {w : Row} {j : Nat} {v : Int32} (h : 20 ≤ j) : upd w j v 5 = w 5 := updn (by omega)
theorem u6 {w : Row} {j : Nat} {v : Int32} (h : 20 ≤ j) : upd w j v 6 = w 6 := updn (by omega)
theorem Inv_cross {w : Row} {c i : Nat} (hc : c < nn (w 6)) (hi : i < nn (w 5)) (h : Inv w) : Inv (upd (upd w (104 + 8 * c + 5) (w (104 + 8 * c + 5) + 1)) (20 + 7 * i + 5) (w (20 + 7 * i + 5) + 1)) := by
  obtain ⟨hR, hQ, hZ, hW, hI, hG, hM, hS, hT⟩ := h
  have h6 := hR.1.2.2.le
  have h5 := hR.1.2.1.le
  have hcn1 : Cn (upd w (104 + 8 * c + 5) (w (104 + 8 * c + 5) + 1)) := Cn_upd (by omega) (by omega) (by omega) hR.1
  refine ⟨Rn_upd (by unfold bad; omega) (Rn_upd (by unfold bad; omega) hR), IQ_upd hcn1 (by omega) (by omega) (by omega) (by omega) (fun c hc => by omega) (IQ_upd hR.1 (by omega) (by omega) (by omega) (by omega) (fun c hc => by omega) hQ), IZ_upd (by unfold zp; rw [u5 (by omega), u6 (by omega)]; omega) (IZ_upd (by unfold zp; omega) hZ),
    IW_upd (fun c hc => by omega) (IW_upd (fun c hc => by omega) hW), IR_upd (by omega) (by omega) (fun i hi => by omega) (IR_upd (by omega) (by omega) (fun i hi => by omega) hI), IG_upd (by omega) (fun i hi => by omega) (fun c hc => by omega) (IG_upd (by omega) (fun i hi => by omega) (fun c hc => by omega) hG),
    IM_upd (by omega) (by omega) (fun i hi => by omega) (fun c hc => by omega) (IM_upd (by omega) (by omega) (fun i hi => by omega) (fun c hc => by omega) hM), IS_upd (by omega) (IS_upd (by omega) hS), ⟨fun c' hc' => ?_, ?_⟩⟩
  · rw [updn (by omega), updn (by omega)]; exact hT.1 c' hc'
  · unfold IX
    rw [sumI_one (f := fun k => upd (upd w (104 + 8 * c + 5) (w (104 + 8 * c + 5) + 1)) (20 + 7 * i + 5) (w (20 + 7 * i + 5) + 1) (104 + 8 * k + 5)) (g := fun k => w (104 + 8 * k + 5)) (c := c) (d := 1) (by
        show upd (upd w (104 + 8 * c + 5) (w (104 + 8 * c + 5) + 1)) (20 + 7 * i + 5) (w (20 + 7 * i + 5) + 1) (104 + 8 * c + 5) = w (104 + 8 * c + 5) + 1
        rw [updn (by omega), upde]) 8 (by omega) (fun k hk hkc => by
        show upd (upd w (104 + 8 * c + 5) (w (104 + 8 * c + 5) + 1)) (20 + 7 * i + 5) (w (20 + 7 * i + 5) + 1) (104 + 8 * k + 5) = w (104 + 8 * k + 5)
        rw [updn (by omega), updn (by omega)]),
      sumI_one (f := fun k => upd (upd w (104 + 8 * c + 5) (w (104 + 8 * c + 5) + 1)) (20 + 7 * i + 5) (w (20 + 7 * i + 5) + 1) (20 + 7 * k + 5)) (g := fun k => w (20 + 7 * k + 5)) (c := i) (d := 1) (by
        show upd (upd w (104 + 8 * c + 5) (w (104 + 8 * c + 5) + 1)) (20 + 7 * i + 5) (w (20 + 7 * i + 5) + 1) (20 + 7 * i + 5) = w (20 + 7 * i + 5) + 1
        rw [upde]) 12 (by omega) (fun k hk hkc => by
        show upd (upd w (104 + 8 * c + 5) (w (104 + 8 * c + 5) + 1)) (20 + 7 * i + 5) (w (20 + 7 * i + 5) + 1) (20 + 7 * k + 5) = w (20 + 7 * k + 5)
        rw [updn (by omega), updn (by omega)]), hT.2]
theorem Inv_o286 {i : Nat} {w : Row} {c : Nat} (hi : i < nn (w 5)) (hc : c < nn (w 6)) (h : Inv w) : Inv (bX7_opens_286 i w c).2 := by
  have h6 := h.1.1.2.2.le
  have h5 := h.1.1.2.1.le
  unfold bX7_opens_286
  have h2 : Inv (upd (upd w (104 + 8 * c + 5) ((w (104 + 8 * c + 5)) + 1)) (20 + 7 * i + 5) (((upd w (104 + 8 * c + 5) ((w (104 + 8 * c + 5)) + 1)) (20 + 7 * i + 5)) + 1)) := by
    rw [updn (show ¬ 20 + 7 * i + 5 = 104 + 8 * c + 5 by omega)]; exact Inv_cross hc hi h
  refine Inv_draws ?_ (Inv_stops ?_ h2)
  · rw [(st5 (by omega) h2.1).1, u5 (by omega), u5 (by omega)]; exact hi
  · rw [u6 (by omega), u6 (by omega)]; exact hc
theorem Inv_o246 {i : Nat} {w : Row} {c : Nat} (hi : i < nn (w 5)) (hc : c < nn (w 6)) (h : Inv w) : Inv (bX7_opens_246 i w c).2 := by
  have h5 := h.1.1.2.1.le
  unfold bX7_opens_246
  have a := h.1.2.2.1 i (by omega)
  split
  · exact Inv_o286 (by rw [u5 (by omega)]; exact hi) (by rw [u6 (by omega)]; exact hc) (Inv_town hc a.2.1 h)
  · exact Inv_o286 (by rw [u5 (by omega)]; exact hi) (by rw [u6 (by omega)]; exact hc) (Inv_town hc a.1 h)
theorem gives_5 {w : Row} {c i : Nat} {x : Int32} : gives w c i x 5 = w 5 ∧ gives w c i x 6 = w 6 := by
  unfold gives
  exact ⟨by rw [u5 (by omega), u5 (by omega), u5 (by omega)], by rw [u6 (by omega), u6 (by omega), u6 (by omega)]⟩
theorem pays_5 {w : Row} {c i : Nat} {x : Int32} : sX7_pays w c i x 5 = w 5 ∧ sX7_pays w c i x 6 = w 6 := by
  unfold sX7_pays
  exact ⟨by rw [u5 (by omega), u5 (by omega), u5 (by omega)], by rw [u6 (by omega), u6 (by omega), u6 (by omega)]⟩
theorem o204_eq {i : Nat} {w : Row} {c : Nat} {g : Int32} : bX7_opens_204 i w c g = bX7_opens_246 i (gives w c i g) c := rfl
theorem Inv_o204 {i : Nat} {w : Row} {c : Nat} {g : Int32} (hi : i < nn (w 5)) (hc : c < nn (w 6)) (h0 : 0 ≤ g.toInt) (h1 : g.toInt ≤ tl w i) (h : Inv w) : Inv (bX7_opens_204 i w c g).2 := by
  rw [o204_eq]
  exact Inv_o246 (by rw [gives_5.1]; exact hi) (by rw [gives_5.2]; exact hc) (Inv_gives hc hi h0 h1 h)
theorem Inv_o144 {i : Nat} {w : Row} {c : Nat} (hi : i < nn (w 5)) (hc : c < nn (w 6)) (h : Inv w) : Inv (bX7_opens_144 i w c).2 := by
  have h5 := h.1.1.2.1.le
  unfold bX7_opens_144
  have hS := h.2.2.2.2.2.2.2.1.2.2.1
  have hT := h.m.2.1 i (by omega)
  split
  · split
    · rename_i q
      rw [Int32.le_iff_toInt_le] at q
      exact Inv_o204 hi hc hS.1 q h
    · exact Inv_o204 hi hc hT (Int.le_refl _) h
  · exact Inv_o246 hi hc h
theorem Inv_o120 {i : Nat} {w : Row} {nr : Int32} {c : Nat} {al br : Int32} (hi : i < nn (w 5)) (hc : c < nn (w 6)) (h0 : 0 ≤ br.toInt) (h1 : br.toInt ≤ co w c) (h : Inv w) : Inv (bX7_opens_120 i w nr c al br).2 := by
  have h6 := h.1.1.2.2.le
  unfold bX7_opens_120
  have e0 : (0 : Int32).toInt = 0 := by decide
  have hC := h.m.1 c (by omega)
  have A : ∀ x : Int32, 0 ≤ x.toInt → x.toInt ≤ co w c → Inv (bX7_opens_144 i (sX7_pays w c i x) c).2 := fun x p q => Inv_o144 (by rw [pays_5.1]; exact hi) (by rw [pays_5.2]; exact hc) (Inv_pays hc hi p q h)
  split
  · split
    · exact A 0 (by omega) (by omega)
    · exact A br h0 h1
  · exact A br h0 h1
theorem Inv_o78 {i : Nat} {w : Row} {nr : Int32} {c : Nat} {al : Int32} (hi : i < nn (w 5)) (hc : c < nn (w 6)) (h : Inv w) : Inv (bX7_opens_78 i w nr c al).2 := by
  have h6 := h.1.1.2.2.le
  unfold bX7_opens_78
  have hS := h.2.2.2.2.2.2.2.1.1
  have hC := h.m.1 c (by omega)
  split
  · rename_i q
    rw [Int32.le_iff_toInt_le] at q
    exact Inv_o120 hi hc hS.1 q h
  · exact Inv_o120 hi hc hC (Int.le_refl _) h
theorem Inv_o44 {i : Nat} {w : Row} {nr cm : Int32} (hi : i < nn (w 5)) (hc : cm = -6 ∨ nn cm < nn (w 6)) (h : Inv w) : Inv (bX7_opens_44 i w nr cm).2 := by
  unfold bX7_opens_44
  by_cases q : cm = -6
  · rw [if_pos q]; exact h
  · rw [if_neg q]
    have hc := hc.resolve_left q
    split
    · exact Inv_o78 hi hc h
    · exact Inv_o78 hi hc h
theorem Inv_opens {w : Row} {i : Nat} (hi : i < nn (w 5)) (h : Inv w) : Inv (sX7_opens w i).2 := by
  have h5 := h.1.1.2.1.le
  have h6 := h.1.1.2.2.le
  have A : ∀ v : Int32, Inv (upd w (20 + 7 * i + 6) v) := fun v => Inv_free (by unfold free; omega) h
  have hcm : ∀ v : Int32, sX7_comer w i = -6 ∨ nn (sX7_comer w i) < nn (upd w (20 + 7 * i + 6) v 6) := fun v => by
    rw [cmr_eq h.1, u6 (by omega)]
    cases e : cmr w i with
    | none => exact Or.inl rfl
    | some c =>
      have := (h.2.1.2.1 c (cmr_mem e).1).1
      refine Or.inr ?_
      show nn (nI c) < _
      rw [nn_nI (by omega)]; exact this
  unfold sX7_opens
  split
  · exact Inv_o44 (by rw [u5 (by omega)]; exact hi) (hcm _) (A _)
  · exact Inv_o44 (by rw [u5 (by omega)]; exact hi) (hcm _) (A _)
theorem Inv_waited {w : Row} {c : Nat} {v : Int32} (hc : c < nn (w 6)) (ha : ¬ w (104 + 8 * c + 2) = -6) (h : Inv w) : Inv (upd w (104 + 8 * c + 4) v) := by
  obtain ⟨hR, hQ, hZ, hW, hI, hG, hM, hS, hT⟩ := h
  have h6 := hR.1.2.2.le
  refine ⟨Rn_upd (by unfold bad; omega) hR, IQ_upd hR.1 (by omega) (by omega) (by omega) (by omega) (fun c hc => by omega) hQ, IZ_upd (by unfold zp; omega) hZ,
    fun c' hc' hq => ?_, IR_upd (by omega) (by omega) (fun i hi => by omega) hI, IG_upd (by omega) (fun i hi => by omega) (fun c hc => by omega) hG,
    IM_upd (by omega) (by omega) (fun i hi => by omega) (fun c hc => by omega) hM, IS_upd (by omega) hS, IT_upd (fun c hc => by omega) (fun i hi => by omega) hT⟩
  rw [updn (by omega)] at hq
  by_cases e : c' = c
  · subst e; exact absurd hq ha
  · rw [updn (by omega)]; exact hW c' hc' hq
theorem mem_q {w : Row} {p : Nat} (hp : p < nn (w 10)) : nn (w (12 + p)) ∈ qs w := mem_ql _ _ _ (Nat.zero_le p) (by omega)
theorem op5 {w : Row} {i : Nat} (hr : Rn w) (hi : i < 12) : (sX7_opens w i).2 5 = w 5 ∧ (sX7_opens w i).2 6 = w 6 := by
  have D : ∀ (w : Row), sX7_draws w i 5 = w 5 ∧ sX7_draws w i 6 = w 6 := fun w => by
    rw [dr7 hi]; exact ⟨drw_o hi (by omega) (by omega) (by omega), drw_o hi (by omega) (by omega) (by omega)⟩
  have a286 : ∀ (w : Row) (c : Nat), c < 8 → Rn w → (bX7_opens_286 i w c).2 5 = w 5 ∧ (bX7_opens_286 i w c).2 6 = w 6 := by
    intro w c hc hr
    unfold bX7_opens_286
    have h2 : Rn (upd (upd w (104 + 8 * c + 5) ((w (104 + 8 * c + 5)) + 1)) (20 + 7 * i + 5) (((upd w (104 + 8 * c + 5) ((w (104 + 8 * c + 5)) + 1)) (20 + 7 * i + 5)) + 1)) := Rn_upd (by unfold bad; omega) (Rn_upd (by unfold bad; omega) hr)
    have s := st5 hc h2
    exact ⟨(D _).1.trans (s.1.trans (by rw [u5 (by omega), u5 (by omega)])), (D _).2.trans (s.2.trans (by rw [u6 (by omega), u6 (by omega)]))⟩
  have a246 : ∀ (w : Row) (c : Nat), c < 8 → Rn w → (bX7_opens_246 i w c).2 5 = w 5 ∧ (bX7_opens_246 i w c).2 6 = w 6 := by
    intro w c hc hr
    unfold bX7_opens_246
    split
    · have := a286 (upd w (104 + 8 * c) (w (20 + 7 * i + 1))) c hc (Rn_upd (by unfold bad; omega) hr)
      rw [u5 (by omega), u6 (by omega)] at this; exact this
    · have := a286 (upd w (104 + 8 * c) (w (20 + 7 * i))) c hc (Rn_upd (by unfold bad; omega) hr)
      rw [u5 (by omega), u6 (by omega)] at this; exact this
  have a204 : ∀ (w : Row) (c : Nat) (g : Int32), c < 8 → Rn w → (bX7_opens_204 i w c g).2 5 = w 5 ∧ (bX7_opens_204 i w c g).2 6 = w 6 := by
    intro w c g hc hr
    rw [o204_eq]
    have := a246 (gives w c i g) c hc (Rn_upd (by unfold bad; omega) (Rn_upd (by unfold bad; omega) (Rn_upd (by unfold bad; omega) hr)))
    rw [gives_5.1, gives_5.2] at this; exact this
  have a144 : ∀ (w : Row) (c : Nat), c < 8 → Rn w → (bX7_opens_144 i w c).2 5 = w 5 ∧ (bX7_opens_144 i w c).2 6 = w 6 := by
    intro w c hc hr
    unfold bX7_opens_144
    split
    · split
      · exact a204 _ _ _ hc hr
      · exact a204 _ _ _ hc hr
    · exact a246 _ _ hc hr
  have aP : ∀ (w : Row) (c : Nat) (x : Int32), c < 8 → Rn w → (bX7_opens_144 i (sX7_pays w c i x) c).2 5 = w 5 ∧ (bX7_opens_144 i (sX7_pays w c i x) c).2 6 = w 6 := by
    intro w c x hc hr
    have := a144 (sX7_pays w c i x) c hc (Rn_pays hc hi hr)
    rw [pays_5.1, pays_5.2] at this; exact this
  have a120 : ∀ (w : Row) (nr : Int32) (c : Nat) (al br : Int32), c < 8 → Rn w → (bX7_opens_120 i w nr c al br).2 5 = w 5 ∧ (bX7_opens_120 i w nr c al br).2 6 = w 6 := by
    intro w nr c al br hc hr
    unfold bX7_opens_120
    split
    · split
      · exact aP _ _ _ hc hr
      · exact aP _ _ _ hc hr
    · exact aP _ _ _ hc hr
  have a44 : ∀ (w : Row) (nr cm : Int32), (cm = -6 ∨ sm cm 7) → Rn w → (bX7_opens_44 i w nr cm).2 5 = w 5 ∧ (bX7_opens_44 i w nr cm).2 6 = w 6 := by
    intro w nr cm hcm hr
    unfold bX7_opens_44
    by_cases q : cm = -6
    · rw [if_pos q]; exact ⟨rfl, rfl⟩
    · rw [if_neg q]
      have hc := (hcm.resolve_left q).le
      unfold bX7_opens_78
      split
      · split
        · exact a120 _ _ _ _ _ (by omega) hr
        · exact a120 _ _ _ _ _ (by omega) hr
      · split
        · exact a120 _ _ _ _ _ (by omega) hr
        · exact a120 _ _ _ _ _ (by omega) hr
  unfold sX7_opens
  split
  · have := a44 (upd w (20 + 7 * i + 6) (w (20 + 7 * i + 6) + 0)) (sX7_areAsNear w i) (sX7_comer w i) (comer_cm hr) (Rn_upd (by unfold bad; omega) hr)
    rw [u5 (by omega), u6 (by omega)] at this; exact this
  · have := a44 (upd w (20 + 7 * i + 6) (w (20 + 7 * i + 6) + 1)) (sX7_areAsNear w i) (sX7_comer w i) (comer_cm hr) (Rn_upd (by unfold bad; omega) hr)
    rw [u5 (by omega), u6 (by omega)] at this; exact this
theorem Inv_hour {w : Row} (h : Inv w) : Inv (sX7_hour w).2 := by
  have k2 : ∀ (n : Nat) (w : Row) (ov : Int32) (p : Nat), p ≤ 8 → Inv w → Inv (bX7_hour_41 n w ov p).2 := by
    intro n
    induction n with
    | zero => intro w ov p _ h; exact h
    | succ n ih =>
      intro w ov p hp h
      rw [bX7_hour_41]
      by_cases h1 : w (10) ≤ nI p
      · rw [if_pos h1]; exact Inv_free (by unfold free; omega) h
      · rw [if_neg h1]
        have hp2 := h.1.1.lt10 (by omega) h1
        obtain ⟨a1, i, a2, a3⟩ := h.2.1.2.1 _ (mem_q hp2.1)
        have h5 := h.1.1.2.1.le
        exact ih _ _ _ (by omega) (Inv_waited a1 (by rw [a3]; exact nn_neg6 (by omega)) h)
  have k1 : ∀ (n : Nat) (w : Row) (ov : Int32) (p : Nat), p ≤ 12 → Inv w → Inv (bX7_hour_4 n w ov p).2 := by
    intro n
    induction n with
    | zero => intro w ov p _ h; exact h
    | succ n ih =>
      intro w ov p hp h
      rw [bX7_hour_4]
      by_cases h1 : w (5) ≤ nI p
      · rw [if_pos h1]; exact k2 _ _ _ _ (by omega) h
      · rw [if_neg h1]
        have hp2 := h.1.1.lt5 (by omega) h1
        split
        · exact ih _ _ _ (by omega) (Inv_opens hp2.1 h)
        · exact ih _ _ _ (by omega) (Inv_opens hp2.1 h)
  unfold sX7_hour
  exact k1 _ _ _ _ (by omega) h
theorem Inv_hours {w : Row} {x : Int32} (h : Inv w) : Inv (sX7_hours w x).2 := by
  have key : ∀ (n : Nat) (w : Row) (ov : Int32) (p : Nat), Inv w → Inv (bX7_hours_5 x n w ov p).2 := by
    intro n
    induction n with
    | zero => intro w ov p h; exact h
    | succ n ih =>
      intro w ov p h
      rw [bX7_hours_5]
      by_cases c : x ≤ nI p
      · rw [if_pos c]; exact h
      · rw [if_neg c]; exact ih _ _ _ (Inv_hour h)
  unfold sX7_hours
  exact key _ _ _ _ h
