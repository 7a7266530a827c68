/-! what there is, side by side -/
def bit (c : Nat) : Int32 := 1 <<< (nI c &&& 31)
def orL (l : List Nat) (a : Int32) : Int32 := l.foldl (fun a c => a ||| bit c) a
theorem orL_perm {l l' : List Nat} (h : List.Perm l l') : ∀ a, orL l a = orL l' a := by
  induction h with
  | nil => intro a; rfl
  | cons x _ ih => intro a; exact ih _
  | swap x y l =>
    intro a
    show orL l ((a ||| bit y) ||| bit x) = orL l ((a ||| bit x) ||| bit y)
    rw [Int32.or_assoc, Int32.or_comm (bit y), ← Int32.or_assoc]
  | trans _ _ h1 h2 => intro a; exact (h1 a).trans (h2 a)
def Sw (w : Row) (c : Nat) : Bool := decide (¬ w (104 + 8 * c + 2) = -6)
theorem ws5 : ∀ (n m : Nat) (w : Row) (st : Int32) (p : Nat), sm (w 6) 8 → nn (w 6) = p + m → m < n → bX5_waitingSet_4 w n st p = orL ((List.range' p m).filter (Sw w)) st := by
  intro n
  induction n with
  | zero => intro m w st p _ _ h; omega
  | succ n ih =>
    intro m w st p h6 hm hn
    rw [bX5_waitingSet_4]
    have := h6.le
    have hc := cnt_le (c := w 6) (p := p) h6 (by omega)
    cases m with
    | zero => rw [if_pos (hc.mpr (by omega))]; rfl
    | succ m =>
      rw [if_neg (fun q => by have := hc.mp q; omega), List.range'_succ]
      by_cases c2 : sX1_isWaiting w p = 0
      · rw [if_pos c2, List.filter_cons_of_neg (by unfold Sw; simpa using isW.mp c2)]
        exact ih m w st (p + 1) h6 (by omega) (by omega)
      · rw [if_neg c2, List.filter_cons_of_pos (by unfold Sw; simpa using fun q => c2 (isW.mpr q))]
        exact ih m w _ (p + 1) h6 (by omega) (by omega)
theorem ws7 : ∀ (n m : Nat) (w : Row) (a : Int32) (p : Nat), Rn w → nn (w 10) = p + m → m < n → bX7_waitingSet_4 w n a p = orL (ql w m p) a := by
  intro n
  induction n with
  | zero => intro m w a p _ _ h; omega
  | succ n ih =>
    intro m w a p hr hm hn
    rw [bX7_waitingSet_4]
    have := hr.1.1.le
    have hc := cnt_le (c := w 10) (p := p) hr.1.1 (by omega)
    cases m with
    | zero => rw [if_pos (hc.mpr (by omega))]; rfl
    | succ m =>
      have hv := (hr.2.1 p (by omega)).eq
      rw [if_neg (fun q => by have := hc.mp q; omega), ql, ih m w _ (p + 1) hr (by omega) (by omega)]
      show orL (ql w m (p + 1)) (a ||| 1 <<< (w (12 + p) &&& 31)) = orL (ql w m (p + 1)) (a ||| 1 <<< (nI (nn (w (12 + p))) &&& 31))
      rw [← hv]
section RD
variable {w r : Row}
theorem ws_rel (hI : Inv r) (h : Rel w r) : sX5_waitingSet w = sX7_waitingSet r := by
  have hr := hI.1
  have cw := h.cn hr.1
  have e6 : w 6 = r 6 := h.j (by omega)
  have h6 := hr.1.2.2.le
  have h8 := hr.1.1.le
  unfold sX5_waitingSet sX7_waitingSet
  rw [ws5 9 (nn (w 6)) w 0 0 cw.2.2 (by omega) (by have := cw.2.2.le; omega), ws7 9 (nn (r 10)) r 0 0 hr (by omega) (by omega)]
  refine orL_perm ((List.perm_ext_iff_of_nodup ((List.nodup_range' 1 Nat.one_pos).filter _) hI.2.1.1).mpr (fun c => ?_)) 0
  rw [List.mem_filter, List.mem_range'_1, e6]
  unfold Sw
  constructor
  · rintro ⟨q1, q2⟩
    have q2' : ¬ w (104 + 8 * c + 2) = -6 := by simpa using q2
    rw [h.c (c := c) (f := 2) (by omega) (by omega) (fun _ => by omega)] at q2'
    exact (hI.2.1.2.2 c (by omega)).resolve_left q2'
  · intro q
    obtain ⟨q1, k, q2, q3⟩ := hI.2.1.2.1 c q
    have h5 := hr.1.2.1.le
    refine ⟨by omega, ?_⟩
    rw [h.c (c := c) (f := 2) (by omega) (by omega) (fun _ => by omega), q3]
    simpa using nn_neg6 (c := k) (by omega)
theorem sumC_rel {x : Int32} {f : Nat} (hI : Inv r) (h : Rel w r) (hp : ∀ p, p < nn (r 6) → sX1_part w p x = r (104 + 8 * p + f)) : sX5_sumOverCarts w x = sX7_ofCarts r f := by
  have hr := hI.1
  have e6 : w 6 = r 6 := h.j (by omega)
  have h6 := hr.1.2.2.le
  have key : ∀ (n : Nat) (a : Int32) (p : Nat), p ≤ 8 → bX5_sumOverCarts_4 w x n a p = bX7_ofCarts_5 r f n a p := by
    intro n
    induction n with
    | zero => intro a p _; rfl
    | succ n ih =>
      intro a p hp8
      rw [bX5_sumOverCarts_4, bX7_ofCarts_5, e6]
      by_cases c : r 6 ≤ nI p
      · rw [if_pos c, if_pos c]
      · rw [if_neg c, if_neg c]
        have hp2 := hr.1.lt6 (by omega) c
        rw [hp p hp2.1]; exact ih _ _ (by omega)
  exact key 9 0 0 (by omega)
theorem cpart {p : Nat} : sX1_part w p 1 = w (104 + 8 * p + 1) ∧ sX1_part w p 6 = w (104 + 8 * p + 6) ∧ sX1_part w p 7 = w (104 + 8 * p + 7) := by
  unfold sX1_part
  refine ⟨?_, ?_, ?_⟩
  · rw [if_neg (by decide), if_pos rfl]
  · rw [if_neg (by decide), if_neg (by decide), if_neg (by decide), if_neg (by decide), if_neg (by decide), if_neg (by decide), if_pos rfl]
  · rw [if_neg (by decide), if_neg (by decide), if_neg (by decide), if_neg (by decide), if_neg (by decide), if_neg (by decide), if_neg (by decide)]
theorem bpart {p : Nat} : sX0_part w p 5 = w (20 + 7 * p + 4) ∧ sX0_part w p 6 = w (20 + 7 * p + 5) := by
  unfold sX0_part
  refine ⟨?_, ?_⟩
  · rw [if_neg (by decide), if_neg (by decide), if_neg (by decide), if_neg (by decide), if_neg (by decide), if_pos rfl]
  · rw [if_neg (by decide), if_neg (by decide), if_neg (by decide), if_neg (by decide), if_neg (by decide), if_neg (by decide), if_pos rfl]
theorem sumC1 (hI : Inv r) (h : Rel w r) : sX5_sumOverCarts w 1 = sX7_ofCarts r 1 := sumC_rel hI h (fun p hp => by
  have := hI.1.1.2.2.le
  rw [cpart.1]; exact h.c (by omega) (by omega) (by omega))
theorem sumC6 (hI : Inv r) (h : Rel w r) : sX5_sumOverCarts w 6 = sX7_ofCarts r 6 := sumC_rel hI h (fun p hp => by
  have := hI.1.1.2.2.le
  rw [cpart.2.1]; exact h.c (by omega) (by omega) (by omega))
theorem sumC7 (hI : Inv r) (h : Rel w r) : sX5_sumOverCarts w 7 = sX7_ofCarts r 7 := sumC_rel hI h (fun p hp => by
  have := hI.1.1.2.2.le
  rw [cpart.2.2]; exact h.c (by omega) (by omega) (by omega))
/-- a sum over the first ones, told by sumI -/
theorem sB5 {x : Int32} {F : Nat → Int32} (hcn : sm (w 5) 12) (hp : ∀ p, p < nn (w 5) → sX0_part w p x = F p) (hz : ∀ p, p < 12 → nn (w 5) ≤ p → F p = 0) : sX5_sumOverBridges w x = sumI F 12 := by
  have h5 := hcn.le
  have key : ∀ (n p : Nat), p ≤ nn (w 5) → nn (w 5) - p < n → bX5_sumOverBridges_4 w x n (sumI F p) p = sumI F (nn (w 5)) := by
    intro n
    induction n with
    | zero => intro p _ h; omega
    | succ n ih =>
      intro p hp' hn
      rw [bX5_sumOverBridges_4]
      have hc := cnt_le (c := w 5) (p := p) hcn (by omega)
      by_cases c : w 5 ≤ nI p
      · rw [if_pos c, show p = nn (w 5) by have := hc.mp c; omega]
      · rw [if_neg c]
        have : p < nn (w 5) := by have := (not_congr hc).mp c; omega
        rw [hp p this]
        exact ih (p + 1) (by omega) (by omega)
  have tail : ∀ k, nn (w 5) + k ≤ 12 → sumI F (nn (w 5) + k) = sumI F (nn (w 5)) := by
    intro k
    induction k with
    | zero => intro _; rfl
    | succ k ih =>
      intro hk
      show sumI F (nn (w 5) + k) + F (nn (w 5) + k) = _
      rw [hz _ (by omega) (by omega), ih (by omega)]; exact Int32.add_zero _
  have := tail (12 - nn (w 5)) (by omega)
  rw [show nn (w 5) + (12 - nn (w 5)) = 12 by omega] at this
  rw [this]
  exact key 13 0 (by omega) (by omega)
theorem oC7 {f : Nat} {F : Nat → Int32} (hcn : sm (r 6) 8) (hp : ∀ p, p < nn (r 6) → r (104 + 8 * p + f) = F p) (hz : ∀ p, p < 8 → nn (r 6) ≤ p → F p = 0) : sX7_ofCarts r f = sumI F 8 := by
  have h5 := hcn.le
  have key : ∀ (n p : Nat), p ≤ nn (r 6) → nn (r 6) - p < n → bX7_ofCarts_5 r f n (sumI F p) p = sumI F (nn (r 6)) := by
    intro n
    induction n with
    | zero => intro p _ h; omega
    | succ n ih =>
      intro p hp' hn
      rw [bX7_ofCarts_5]
      have hc := cnt_le (c := r 6) (p := p) hcn (by omega)
      by_cases c : r 6 ≤ nI p
      · rw [if_pos c, show p = nn (r 6) by have := hc.mp c; omega]
      · rw [if_neg c]
        have : p < nn (r 6) := by have := (not_congr hc).mp c; omega
        rw [hp p this]
        exact ih (p + 1) (by omega) (by omega)
  have tail : ∀ k, nn (r 6) + k ≤ 8 → sumI F (nn (r 6) + k) = sumI F (nn (r 6)) := by
    intro k
    induction k with
    | zero => intro _; rfl
    | succ k ih =>
      intro hk
      show sumI F (nn (r 6) + k) + F (nn (r 6) + k) = _
      rw [hz _ (by omega) (by omega), ih (by omega)]; exact Int32.add_zero _
  have := tail (8 - nn (r 6)) (by omega)
  rw [show nn (r 6) + (8 - nn (r 6)) = 8 by omega] at this
  rw [this]
  exact key 9 0 (by omega) (by omega)
theorem cross_rel (hI : Inv r) (h : Rel w r) : sX5_sumOverBridges w 6 = sX7_ofCarts r 5 := by
  have hr := hI.1
  have h5 := hr.1.2.1.le
  have h6 := hr.1.2.2.le
  have e5 : w 5 = r 5 := h.j (by omega)
  rw [sB5 (F := fun i => r (20 + 7 * i + 5)) (by rw [e5]; exact hr.1.2.1) (fun p hp => by rw [e5] at hp; rw [bpart.2]; exact h.b (by omega) (by omega)) (fun p hp hn => by rw [e5] at hn; exact (hI.2.2.1.1 p hp hn).2.1),
    oC7 (F := fun c => r (104 + 8 * c + 5)) hr.1.2.2 (fun p hp => rfl) (fun p hp hn => (hI.2.2.1.2.1 p hp hn).2.2.1)]
  exact hI.2.2.2.2.2.2.2.2.2.symm
theorem till_rel (hI : Inv r) (h : Rel w r) : sX5_sumOverBridges w 5 = sX7_inTills r := by
  have hr := hI.1
  have h5 := hr.1.2.1.le
  have e5 : w 5 = r 5 := h.j (by omega)
  have key : ∀ (n : Nat) (a : Int32) (p : Nat), p ≤ 12 → bX5_sumOverBridges_4 w 5 n a p = bX7_inTills_4 r n a p := by
    intro n
    induction n with
    | zero => intro a p _; rfl
    | succ n ih =>
      intro a p hp8
      rw [bX5_sumOverBridges_4, bX7_inTills_4, e5]
      by_cases c : r 5 ≤ nI p
      · rw [if_pos c, if_pos c]
      · rw [if_neg c, if_neg c]
        have hp2 := hr.1.lt5 (by omega) c
        rw [bpart.1, h.b (j := 20 + 7 * p + 4) (by omega) (by omega)]; exact ih _ _ (by omega)
  exact key 13 0 0 (by omega)
theorem below8 {y : Int32} : sX6_isBelow y 8 = 0 ↔ sX7_in y.toInt64 0 7 = 0 := town_iff
theorem ofCart_rel {g : GS} {x y : Int32} (h : RG g) : sX6_ofCart g x y = sX7_ofCart (g.2.2.1 0) x y := by
  have hI := h.2.1.1 0 (by omega)
  have hR := h.2.2.1
  unfold sX6_ofCart sX7_ofCart
  rw [cartOf_E hI.1.1 hR]
  by_cases t1 : sX7_isCart (g.2.2.1 0) x = 0
  · rw [if_pos t1, if_pos t1, oe_none rfl]
  rw [if_neg t1, if_neg t1, oe_some rfl]
  have hC := isCart_of hI.1.1 t1
  by_cases t2 : sX7_in y.toInt64 0 7 = 0
  · rw [if_pos t2, if_pos (below8.mpr t2)]
  rw [if_neg t2, if_neg (fun q => t2 (below8.mp q))]
  have hy := in07_of t2
  have e : ∀ f, f < 8 → g.1 0 (104 + 8 * nn x + f) = g.2.2.1 0 (104 + 8 * nn x + f) := fun f hf => hR.c hC.2.2 hf (fun _ => hC.2.1)
  unfold sX1_part
  rcases (show nn y = 0 ∨ nn y = 1 ∨ nn y = 2 ∨ nn y = 3 ∨ nn y = 4 ∨ nn y = 5 ∨ nn y = 6 ∨ nn y = 7 by omega) with k | k | k | k | k | k | k | k <;> rw [k] at hy ⊢ <;> rw [hy.1]
  · exact e 0 (by omega)
  · exact e 1 (by omega)
  · exact e 2 (by omega)
  · exact e 3 (by omega)
  · exact e 4 (by omega)
  · exact e 5 (by omega)
  · exact e 6 (by omega)
  · exact e 7 (by omega)
theorem ofBridge_rel {g : GS} {x y : Int32} (h : RG g) : sX6_ofBridge g x y = sX7_ofBridge (g.2.2.1 0) x y := by
  have hI := h.2.1.1 0 (by omega)
  have hR := h.2.2.1
  unfold sX6_ofBridge sX7_ofBridge
  rw [bridgeOf_E hI.1.1 hR]
  by_cases t1 : sX7_isBridge (g.2.2.1 0) x = 0
  · rw [if_pos t1, if_pos t1, oe_none rfl]
  rw [if_neg t1, if_neg t1, oe_some rfl]
  have hC := isBridge_of hI.1.1 t1
  by_cases t2 : sX7_in y.toInt64 0 7 = 0
  · rw [if_pos t2, if_pos (below8.mpr t2)]
  rw [if_neg t2, if_neg (fun q => t2 (below8.mp q))]
  have hy := in07_of t2
  have e : ∀ f, f < 7 → g.1 0 (20 + 7 * nn x + f) = g.2.2.1 0 (20 + 7 * nn x + f) := fun f hf => hR.b (by omega) (by omega)
  have em : g.1 0 (360 + nn x) = sX7_many (g.2.2.1 0) (nn x) := by rw [many_L hI.1.1]; exact hR.2.2.2.2.2.2.1 _ hC.2.2
  unfold sX0_part
  rcases (show nn y = 0 ∨ nn y = 1 ∨ nn y = 2 ∨ nn y = 3 ∨ nn y = 4 ∨ nn y = 5 ∨ nn y = 6 ∨ nn y = 7 by omega) with k | k | k | k | k | k | k | k <;> rw [k] at hy ⊢ <;> rw [hy.1]
  · exact e 0 (by omega)
  · exact e 1 (by omega)
  · exact e 2 (by omega)
  · exact e 3 (by omega)
  · exact em
  · exact e 4 (by omega)
  · exact e 5 (by omega)
  · exact e 6 (by omega)
end RD
