/-! the changes keep the invariants -/
/-- the row ahead of the draw of a new bridge -/
def bld (w : Row) (q : Nat) (x y z : Int32) : Row := upd (upd (upd (upd (upd (upd (upd (upd w (20 + 7 * q + 0) x) (20 + 7 * q + 1) y) (20 + 7 * q + 2) z) (20 + 7 * q + 3) 0) (20 + 7 * q + 4) 0) (20 + 7 * q + 5) 0) (20 + 7 * q + 6) 0) (5) (((upd (upd (upd (upd (upd (upd (upd w (20 + 7 * q + 0) x) (20 + 7 * q + 1) y) (20 + 7 * q + 2) z) (20 + 7 * q + 3) 0) (20 + 7 * q + 4) 0) (20 + 7 * q + 5) 0) (20 + 7 * q + 6) 0) (5)) + 1)
theorem builds_eq {w : Row} {x y z : Int32} : sX7_builds w x y z = (nI (nn (w 5)), sX7_draws (bld w (nn (w 5)) x y z) (nn (w 5))) := rfl
theorem bld_o {w : Row} {q j : Nat} {x y z : Int32} (hq : q < 12) (h5 : ¬ j = 5) (hj : ∀ f, f < 7 → ¬ j = 20 + 7 * q + f) : bld w q x y z j = w j := by
  unfold bld
  rw [updn h5, updn (hj 6 (by omega)), updn (hj 5 (by omega)), updn (hj 4 (by omega)), updn (hj 3 (by omega)), updn (hj 2 (by omega)), updn (hj 1 (by omega)), updn (hj 0 (by omega))]
theorem bld_5 {w : Row} {q : Nat} {x y z : Int32} (hq : q < 12) : bld w q x y z 5 = w 5 + 1 := by
  unfold bld
  rw [upde, updn (by omega), updn (by omega), updn (by omega), updn (by omega), updn (by omega), updn (by omega), updn (by omega)]
theorem bld_f {w : Row} {q : Nat} {x y z : Int32} (hq : q < 12) : bld w q x y z (20 + 7 * q) = x ∧ bld w q x y z (20 + 7 * q + 1) = y ∧ bld w q x y z (20 + 7 * q + 2) = z ∧ bld w q x y z (20 + 7 * q + 3) = 0 ∧ bld w q x y z (20 + 7 * q + 4) = 0 ∧ bld w q x y z (20 + 7 * q + 5) = 0 ∧ bld w q x y z (20 + 7 * q + 6) = 0 := by
  unfold bld
  refine ⟨?_, ?_, ?_, ?_, ?_, ?_, ?_⟩
  · rw [updn (by omega), updn (by omega), updn (by omega), updn (by omega), updn (by omega), updn (by omega), updn (by omega)]; exact upde
  · rw [updn (by omega), updn (by omega), updn (by omega), updn (by omega), updn (by omega), updn (by omega), upde]
  · rw [updn (by omega), updn (by omega), updn (by omega), updn (by omega), updn (by omega), upde]
  · rw [updn (by omega), updn (by omega), updn (by omega), updn (by omega), upde]
  · rw [updn (by omega), updn (by omega), updn (by omega), upde]
  · rw [updn (by omega), updn (by omega), upde]
  · rw [updn (by omega), upde]
theorem sm_i {v : Int32} {n : Nat} (h0 : 0 ≤ v.toInt) (h1 : v.toInt ≤ n) : sm v n := ⟨h0, h1⟩
theorem nn_inc {v : Int32} {n : Nat} (h : sm v n) (hn : n < 1000000) : nn (v + 1) = nn v + 1 ∧ sm (v + 1) (n + 1) := by
  have e := h.le
  have e1 : v + 1 = nI (nn v + 1) := by rw [← nI_1, ← h.eq]
  rw [e1, nn_nI (by omega)]
  exact ⟨rfl, sm_nI (by omega) (by omega)⟩
theorem sm_lt {v : Int32} {n m : Nat} (h : sm v n) (hm : nn v ≤ m) : sm v m := ⟨h.1, by have := nn_toInt h.1; omega⟩
theorem Inv_builds {w : Row} {x y z : Int32} (hq : nn (w 5) < 12) (hz : 2 ≤ z.toInt ∧ z.toInt ≤ 1000) (hx : 0 ≤ x.toInt ∧ x.toInt ≤ 7) (hy : 0 ≤ y.toInt ∧ y.toInt ≤ 7) (h : Inv w) : Inv (sX7_builds w x y z).2 := by
  rw [builds_eq]
  obtain ⟨hR, hQ, hZ, hW, hI, hG, hM, hS, hT⟩ := h
  have n5 := nn_inc hR.1.2.1 (by omega)
  have h6 := hR.1.2.2.le
  generalize hq0 : nn (w 5) = q at *
  have E : ∀ j, ¬ j = 5 → (∀ f, f < 7 → ¬ j = 20 + 7 * q + f) → bld w q x y z j = w j := fun j h1 h2 => bld_o hq h1 h2
  have e5 : nn (bld w q x y z 5) = q + 1 := by rw [bld_5 hq, n5.1]
  have e6 : bld w q x y z 6 = w 6 := E 6 (by omega) (fun f hf => by omega)
  obtain ⟨f0, f1, f2, f3, f4, f5, f6⟩ := bld_f (w := w) (x := x) (y := y) (z := z) hq
  show Inv (sX7_draws (bld w q x y z) q)
  rw [dr7 hq]
  have e10 : bld w q x y z 10 = w 10 := E 10 (by omega) (fun f hf => by omega)
  have eQ := qs_congr (w := w) e10 (fun k hk => E _ (by omega) (fun f hf => by omega)) hR.1
  have O : ∀ i f, i < 12 → ¬ i = q → f < 7 → bld w q x y z (20 + 7 * i + f) = w (20 + 7 * i + f) := fun i f hi hiq hf => E _ (by omega) (fun f' hf' => by omega)
  refine Inv_drw (by rw [e5]; omega) ⟨⟨⟨by rw [e10]; exact hR.1.1, ?_, by rw [e6]; exact hR.1.2.2⟩, fun k hk => ?_, fun i hi => ?_, fun i hi hn => ?_⟩, ?_, ⟨fun i hi hn => ?_, fun c hc hn => ?_, fun c i hc hi hn hm hiq => ?_, fun c i hc hi hn => ?_⟩, fun c hc hq' => ?_, fun c i hc hi hn hiq => ?_, ?_, ?_, ?_, ⟨fun c hc => ?_, ?_⟩⟩
  · rw [bld_5 hq]; exact sm_lt n5.2 (by rw [n5.1]; omega)
  · rw [E _ (by omega) (fun f hf => by omega)]; exact hR.2.1 k hk
  · by_cases e : i = q
    · subst e
      rw [f0, f1, f2]
      exact ⟨sm_i hx.1 hx.2, sm_i hy.1 hy.2, sm_i (by omega) hz.2⟩
    · have := O i 0 hi e (by omega)
      rw [show bld w q x y z (20 + 7 * i) = w (20 + 7 * i) from this, O i 1 hi e (by omega), O i 2 hi e (by omega)]
      exact hR.2.2.1 i hi
  · by_cases e : i = q
    · subst e
      rw [f2]; exact hz.1
    · rw [e5] at hn
      rw [O i 2 hi e (by omega)]; exact hR.2.2.2 i hi (by omega)
  · unfold IQ
    rw [eQ, e6, e5]
    refine ⟨hQ.1, fun c hc => ?_, fun c hc => ?_⟩
    · obtain ⟨a1, i, a2, a3⟩ := hQ.2.1 c hc
      rw [E _ (by omega) (fun f hf => by omega)]
      exact ⟨a1, i, by omega, a3⟩
    · rw [E _ (by omega) (fun f hf => by omega)]; exact hQ.2.2 c hc
  · rw [e5] at hn
    rw [O i 4 hi (by omega) (by omega), O i 5 hi (by omega) (by omega), O i 6 hi (by omega) (by omega)]
    exact hZ.1 i hi (by omega)
  · rw [e6] at hn
    rw [E _ (by omega) (fun f hf => by omega), E _ (by omega) (fun f hf => by omega), E _ (by omega) (fun f hf => by omega), E _ (by omega) (fun f hf => by omega), E _ (by omega) (fun f hf => by omega)]; exact hZ.2.1 c hc hn
  · rw [e5] at hn
    rw [e6] at hm
    rw [E _ (by omega) (fun f hf => by omega), E _ (by omega) (fun f hf => by omega), O i 2 hi hiq (by omega)]; exact hZ.2.2.1 c i hc hi (by omega) hm
  · rw [e5] at hn
    rw [E _ (by omega) (fun f hf => by omega), E _ (by omega) (fun f hf => by omega)]; exact hZ.2.2.2 c i hc hi (by omega)
  · rw [E _ (by omega) (fun f hf => by omega)] at hq' ⊢; exact hW c hc hq'
  · rw [e5] at hn
    rw [E _ (by omega) (fun f hf => by omega), E _ (by omega) (fun f hf => by omega), O i 2 hi hiq (by omega)]; exact hI c i hc hi (by omega)
  · refine ⟨by rw [E _ (by omega) (fun f hf => by omega)]; exact hG.1, fun i hi => ?_, fun c hc => ?_⟩
    · by_cases e : i = q
      · subst e; rw [f3]; exact ⟨by decide, by decide⟩
      · rw [O i 3 hi e (by omega)]; exact hG.2.1 i hi
    · rw [E _ (by omega) (fun f hf => by omega), E _ (by omega) (fun f hf => by omega)]; exact hG.2.2 c hc
  · have m1 : ∀ k, k < 8 → co (bld w q x y z) k = co w k := fun k hk => congrArg Int32.toInt (E _ (by omega) (fun f hf => by omega))
    have m2 : ∀ k, k < 12 → tl (bld w q x y z) k = tl w k := fun k hk => by
      refine congrArg Int32.toInt ?_
      by_cases e : k = q
      · subst e; rw [f4]; exact (hZ.1 k hk (by omega)).1.symm
      · exact O k 4 hk e (by omega)
    refine ⟨fun k hk => by rw [m1 k hk]; exact hM.1 k hk, fun k hk => by rw [m2 k hk]; exact hM.2.1 k hk, ?_, ?_⟩
    · rw [sumN_congr 8 m1, sumN_congr 12 m2, E 8 (by omega) (fun f hf => by omega)]; exact hM.2.2.1
    · rw [e6, E 8 (by omega) (fun f hf => by omega)]; exact hM.2.2.2
  · unfold IS
    rw [E 0 (by omega) (fun f hf => by omega), E 1 (by omega) (fun f hf => by omega), E 2 (by omega) (fun f hf => by omega), E 3 (by omega) (fun f hf => by omega)]; exact hS
  · rw [E _ (by omega) (fun f hf => by omega)]; exact hT.1 c hc
  · refine IX_congr (fun k hk => E _ (by omega) (fun f hf => by omega)) (fun k hk => ?_) hT.2
    by_cases e : k = q
    · subst e; rw [f5]; exact (hZ.1 k hk (by omega)).2.1.symm
    · exact O k 5 hk e (by omega)
/-- the row when a cart has come -/
def cmw (w : Row) (q : Nat) (x y : Int32) : Row := upd (upd (upd (upd (upd (upd (upd (upd w (104 + 8 * q + 0) x) (104 + 8 * q + 1) y) (104 + 8 * q + 2) (-6)) (104 + 8 * q + 3) (-6)) (104 + 8 * q + 4) 0) (104 + 8 * q + 5) 0) (104 + 8 * q + 6) 0) (104 + 8 * q + 7) 0
theorem cmw_o {w : Row} {q j : Nat} {x y : Int32} (hj : ∀ f, f < 8 → ¬ j = 104 + 8 * q + f) : cmw w q x y j = w j := by
  unfold cmw
  rw [updn (hj 7 (by omega)), updn (hj 6 (by omega)), updn (hj 5 (by omega)), updn (hj 4 (by omega)), updn (hj 3 (by omega)), updn (hj 2 (by omega)), updn (hj 1 (by omega)), updn (hj 0 (by omega))]
theorem cmw_f {w : Row} {q : Nat} {x y : Int32} : cmw w q x y (104 + 8 * q) = x ∧ cmw w q x y (104 + 8 * q + 1) = y ∧ cmw w q x y (104 + 8 * q + 2) = -6 ∧ cmw w q x y (104 + 8 * q + 3) = -6 ∧ cmw w q x y (104 + 8 * q + 4) = 0 ∧ cmw w q x y (104 + 8 * q + 5) = 0 ∧ cmw w q x y (104 + 8 * q + 6) = 0 ∧ cmw w q x y (104 + 8 * q + 7) = 0 := by
  unfold cmw
  refine ⟨?_, ?_, ?_, ?_, ?_, ?_, ?_, ?_⟩
  · rw [updn (by omega), updn (by omega), updn (by omega), updn (by omega), updn (by omega), updn (by omega), updn (by omega)]; exact upde
  · rw [updn (by omega), updn (by omega), updn (by omega), updn (by omega), updn (by omega), updn (by omega), upde]
  · rw [updn (by omega), updn (by omega), updn (by omega), updn (by omega), updn (by omega), upde]
  · rw [updn (by omega), updn (by omega), updn (by omega), updn (by omega), upde]
  · rw [updn (by omega), updn (by omega), updn (by omega), upde]
  · rw [updn (by omega), updn (by omega), upde]
  · rw [updn (by omega), upde]
  · rw [upde]
theorem upd_id {w : Row} {j : Nat} {v : Int32} (h : w j = v) : upd w j v = w := by
  funext k
  by_cases e : k = j
  · subst e; rw [upde]; exact h.symm
  · rw [updn e]
theorem comes_loop {x y : Int32} {q : Nat} : ∀ (n : Nat) (w : Row) (p : Nat), sm (w 5) 12 → (∀ i, i < 12 → i < nn (w 5) → w (168 + 2 * (12 * q + i)) = 0 ∧ w (168 + 2 * (12 * q + i) + 1) = w (20 + 7 * i + 2) - 1) → p ≤ 12 → 12 - p < n →
    bX7_comes_81 x y n w q p = (nI q, upd (upd w (6) ((w (6)) + 1)) (8) (((upd w (6) ((w (6)) + 1)) (8)) + y)) := by
  intro n
  induction n with
  | zero => intro w p _ _ _ h; omega
  | succ n ih =>
    intro w p h5 hr hp hn
    rw [bX7_comes_81]
    by_cases c : w (5) ≤ nI p
    · rw [if_pos c]
    · rw [if_neg c]
      have hp2 : p < nn (w 5) := by have := (not_congr (cnt_le (p := p) h5 (by omega))).mp c; omega
      have := h5.le
      obtain ⟨a, b⟩ := hr p (by omega) hp2
      rw [upd_id a, upd_id b]
      exact ih w (p + 1) h5 hr (by omega) (by omega)
theorem comes_eq {w : Row} {x y : Int32} (hq : nn (w 6) < 8) (h : Inv w) : sX7_comes w x y = (nI (nn (w 6)), upd (upd (cmw w (nn (w 6)) x y) 6 (w 6 + 1)) 8 (w 8 + y)) := by
  show bX7_comes_81 x y 13 (cmw w (nn (w 6)) x y) (nn (w 6)) 0 = _
  have E : ∀ j, (∀ f, f < 8 → ¬ j = 104 + 8 * (nn (w 6)) + f) → cmw w (nn (w 6)) x y j = w j := fun j hj => cmw_o hj
  have e5 := E 5 (fun f hf => by omega)
  have e6 := E 6 (fun f hf => by omega)
  have e8 := E 8 (fun f hf => by omega)
  rw [comes_loop 13 _ 0 (by rw [e5]; exact h.1.1.2.1) (fun i hi hn => ?_) (by omega) (by omega), e6, updn (show ¬ 8 = 6 by omega), e8]
  rw [e5] at hn
  rw [E _ (fun f hf => by omega), E _ (fun f hf => by omega), E _ (fun f hf => by omega)]
  exact h.2.2.1.2.2.1 _ i (by omega) hi hn (Nat.le_refl _)
theorem Inv_comes {w : Row} {x y : Int32} (hq : nn (w 6) < 8) (hx : 0 ≤ x.toInt ∧ x.toInt ≤ 7) (hy : 0 ≤ y.toInt ∧ y.toInt ≤ 9999) (h : Inv w) : Inv (sX7_comes w x y).2 := by
  rw [comes_eq hq h]
  obtain ⟨hR, hQ, hZ, hW, hI, hG, hM, hS, hT⟩ := h
  have n6 := nn_inc hR.1.2.2 (by omega)
  have hqe : nn (w 6) = nn (w 6) := rfl
  generalize hq0 : nn (w 6) = q at *
  show Inv (upd (upd (cmw w q x y) 6 (w 6 + 1)) 8 (w 8 + y))
  obtain ⟨f0, f1, f2, f3, f4, f5, f6, f7⟩ := cmw_f (w := w) (q := q) (x := x) (y := y)
  have T : ∀ j, ¬ j = 6 → ¬ j = 8 → upd (upd (cmw w q x y) 6 (w 6 + 1)) 8 (w 8 + y) j = cmw w q x y j := fun j h1 h2 => by rw [updn h2, updn h1]
  have E : ∀ j, ¬ j = 6 → ¬ j = 8 → (∀ f, f < 8 → ¬ j = 104 + 8 * q + f) → upd (upd (cmw w q x y) 6 (w 6 + 1)) 8 (w 8 + y) j = w j := fun j h1 h2 h3 => by rw [T j h1 h2, cmw_o h3]
  have E6 : upd (upd (cmw w q x y) 6 (w 6 + 1)) 8 (w 8 + y) 6 = w 6 + 1 := by rw [updn (by omega), upde]
  have E8 : upd (upd (cmw w q x y) 6 (w 6 + 1)) 8 (w 8 + y) 8 = w 8 + y := upde
  generalize hW' : upd (upd (cmw w q x y) 6 (w 6 + 1)) 8 (w 8 + y) = W at *
  have O : ∀ c f, ¬ c = q → f < 8 → W (104 + 8 * c + f) = w (104 + 8 * c + f) := fun c f h1 h2 => E _ (by omega) (by omega) (fun f' hf' => by omega)
  have e6 : nn (W 6) = q + 1 := by rw [E6, n6.1]
  have e5 : W 5 = w 5 := E 5 (by omega) (by omega) (fun f hf => by omega)
  have e10 : W 10 = w 10 := E 10 (by omega) (by omega) (fun f hf => by omega)
  have eQ := qs_congr (w := w) e10 (fun k hk => E _ (by omega) (by omega) (fun f hf => by omega)) hR.1
  have O0 : ∀ c, ¬ c = q → W (104 + 8 * c) = w (104 + 8 * c) := fun c hc => O c 0 hc (by omega)
  have h8 := hR.1.2.2.le
  refine ⟨⟨⟨by rw [e10]; exact hR.1.1, by rw [e5]; exact hR.1.2.1, ?_⟩, fun k hk => ?_, fun i hi => ?_, fun i hi hn => ?_⟩, ?_, ⟨fun i hi hn => ?_, fun c hc hn => ?_, fun c i hc hi hn hm => ?_, fun c i hc hi hn => ?_⟩, fun c hc hq' => ?_, fun c i hc hi hn => ?_, ?_, ?_, ?_, ⟨fun c hc => ?_, ?_⟩⟩
  · rw [E6]; exact sm_lt n6.2 (by rw [n6.1]; omega)
  · rw [E _ (by omega) (by omega) (fun f hf => by omega)]; exact hR.2.1 k hk
  · rw [E _ (by omega) (by omega) (fun f hf => by omega), E _ (by omega) (by omega) (fun f hf => by omega), E _ (by omega) (by omega) (fun f hf => by omega)]; exact hR.2.2.1 i hi
  · rw [e5] at hn
    rw [E _ (by omega) (by omega) (fun f hf => by omega)]; exact hR.2.2.2 i hi hn
  · unfold IQ
    rw [eQ, e6, e5]
    refine ⟨hQ.1, fun c hc => ?_, fun c hc => ?_⟩
    · obtain ⟨a1, a2⟩ := hQ.2.1 c hc
      rw [O c 2 (by omega) (by omega)]
      exact ⟨by omega, a2⟩
    · by_cases e : c = q
      · subst e; rw [T _ (by omega) (by omega), f2]; exact Or.inl rfl
      · rw [O c 2 e (by omega)]; exact hQ.2.2 c (by omega)
  · rw [e5] at hn
    rw [E _ (by omega) (by omega) (fun f hf => by omega), E _ (by omega) (by omega) (fun f hf => by omega), E _ (by omega) (by omega) (fun f hf => by omega)]; exact hZ.1 i hi hn
  · rw [e6] at hn
    rw [O c 1 (by omega) (by omega), O c 4 (by omega) (by omega), O c 5 (by omega) (by omega), O c 6 (by omega) (by omega), O c 7 (by omega) (by omega)]; exact hZ.2.1 c hc (by omega)
  · rw [e5] at hn
    rw [e6] at hm
    rw [E _ (by omega) (by omega) (fun f hf => by omega), E _ (by omega) (by omega) (fun f hf => by omega), E _ (by omega) (by omega) (fun f hf => by omega)]; exact hZ.2.2.1 c i hc hi hn (by omega)
  · rw [e5] at hn
    rw [E _ (by omega) (by omega) (fun f hf => by omega), E _ (by omega) (by omega) (fun f hf => by omega)]; exact hZ.2.2.2 c i hc hi hn
  · by_cases e : c = q
    · subst e; rw [T _ (by omega) (by omega), f4]
    · rw [O c 2 e (by omega)] at hq'
      rw [O c 4 e (by omega)]; exact hW c hc hq'
  · rw [e5] at hn
    rw [E _ (by omega) (by omega) (fun f hf => by omega), E _ (by omega) (by omega) (fun f hf => by omega), E _ (by omega) (by omega) (fun f hf => by omega)]; exact hI c i hc hi hn
  · refine ⟨by rw [E _ (by omega) (by omega) (fun f hf => by omega)]; exact hG.1, fun i hi => ?_, fun c hc => ?_⟩
    · rw [E _ (by omega) (by omega) (fun f hf => by omega)]; exact hG.2.1 i hi
    · by_cases e : c = q
      · subst e; rw [T _ (by omega) (by omega), f2]; exact Or.inl rfl
      · rw [O c 2 e (by omega), O c 3 e (by omega)]; exact hG.2.2 c hc
  · have m2 : ∀ k, k < 12 → tl W k = tl w k := fun k hk => congrArg Int32.toInt (E _ (by omega) (by omega) (fun f hf => by omega))
    have m1 : ∀ k, k < 8 → ¬ k = q → co W k = co w k := fun k hk hkq => congrArg Int32.toInt (O k 1 hkq (by omega))
    have mq : co W q = y.toInt := congrArg Int32.toInt ((T _ (by omega) (by omega)).trans f1)
    have mw : co w q = 0 := by unfold co; rw [(hZ.2.1 q (by omega) (by omega)).1]; decide
    have hb : (w 8).toInt ≤ 79992 := by have := hM.2.2.2; omega
    have hp : 0 ≤ (w 8).toInt := by have := sumN_pos (f := co w) 8 hM.1; have := sumN_pos (f := tl w) 12 hM.2.1; have := hM.2.2.1; omega
    refine ⟨fun k hk => ?_, fun k hk => by rw [m2 k hk]; exact hM.2.1 k hk, ?_, ?_⟩
    · by_cases e : k = q
      · subst e; rw [mq]; exact hy.1
      · rw [m1 k hk e]; exact hM.1 k hk
    · rw [sumN_one 8 hq m1, sumN_congr 12 m2, mq, mw, E8, ta (by omega)]
      have := hM.2.2.1
      omega
    · rw [e6, E8, ta (by omega)]
      have := hM.2.2.2
      rw [hq0] at this
      omega
  · unfold IS
    rw [E 0 (by omega) (by omega) (fun f hf => by omega), E 1 (by omega) (by omega) (fun f hf => by omega), E 2 (by omega) (by omega) (fun f hf => by omega), E 3 (by omega) (by omega) (fun f hf => by omega)]; exact hS
  · by_cases e : c = q
    · subst e; rw [T _ (by omega) (by omega), f0]; exact sm_i hx.1 hx.2
    · rw [O0 c e]; exact hT.1 c hc
  · refine IX_congr (fun k hk => ?_) (fun k hk => E _ (by omega) (by omega) (fun f hf => by omega)) hT.2
    by_cases e : k = q
    · subst e; rw [T _ (by omega) (by omega), f5]; exact (hZ.2.1 k hk (by omega)).2.2.1.symm
    · exact O k 5 e (by omega)
