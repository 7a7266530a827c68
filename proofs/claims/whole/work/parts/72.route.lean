/-! routes: both sides tell the least number of bridges -/
def adj (w : Row) (t v : Nat) : Prop := ∃ q, q < nn (w 5) ∧ ((nn (w (20 + 7 * q)) = t ∧ nn (w (20 + 7 * q + 1)) = v) ∨ (nn (w (20 + 7 * q)) = v ∧ nn (w (20 + 7 * q + 1)) = t))
def rch (w : Row) : Nat → Nat → Nat → Prop
  | 0, u, v => u = v
  | n + 1, u, v => rch w n u v ∨ ∃ t, rch w n u t ∧ adj w t v
theorem adj_symm {w : Row} {t v : Nat} (h : adj w t v) : adj w v t := by
  obtain ⟨q, h1, h2⟩ := h
  exact ⟨q, h1, h2.symm⟩
theorem rch_left {w : Row} {u t : Nat} (ha : adj w u t) : ∀ (n v : Nat), rch w n t v → rch w (n + 1) u v := by
  intro n
  induction n with
  | zero => intro v h; exact Or.inr ⟨u, rfl, by rw [← (show t = v from h)]; exact ha⟩
  | succ n ih =>
    intro v h
    rcases h with h | ⟨x, h1, h2⟩
    · exact Or.inl (ih v h)
    · exact Or.inr ⟨x, ih x h1, h2⟩
theorem rch_symm {w : Row} : ∀ (n u v : Nat), rch w n u v → rch w n v u := by
  intro n
  induction n with
  | zero => intro u v h; exact Eq.symm (show u = v from h)
  | succ n ih =>
    intro u v h
    rcases h with h | ⟨x, h1, h2⟩
    · exact Or.inl (ih u v h)
    · exact rch_left (adj_symm h2) n u (ih u x h1)
theorem rch_mono {w : Row} {u v : Nat} : ∀ (k n : Nat), rch w n u v → rch w (n + k) u v := by
  intro k
  induction k with
  | zero => intro n h; exact h
  | succ k ih => intro n h; exact Or.inl (ih n h)
theorem b_1 : ∀ k, k < 32 → bt 1 k = decide (k = 0) := by decide +kernel
theorem bit_b {c i : Nat} (hc : c < 32) (hi : i < 32) : bt (1 <<< (nI c &&& 31)) i = decide (i = c) := by
  rw [b_shl c hc 1 hi, b_1 (i - c) (by omega)]
  by_cases e : i = c
  · subst e; simp
  · by_cases h : c ≤ i
    · simp [h, e]; omega
    · simp [h, e]
theorem ends_b {w : Row} {q i : Nat} (hr : Rn w) (hq : q < 12) (hi : i < 32) : bt (sX0_endsSet w q) i = (decide (i = nn (w (20 + 7 * q))) || decide (i = nn (w (20 + 7 * q + 1)))) := by
  have t := hr.2.2.1 q hq
  have a := t.1.le
  have b := t.2.1.le
  unfold sX0_endsSet
  rw [b_or, t.1.eq, t.2.1.eq, bit_b (by omega) hi, bit_b (by omega) hi, nn_nI (by omega), nn_nI (by omega)]
theorem ends_and {w : Row} {q : Nat} {f : Int32} (hr : Rn w) (hq : q < 12) : f &&& sX0_endsSet w q = 0 ↔ ¬ (bt f (nn (w (20 + 7 * q))) = true ∨ bt f (nn (w (20 + 7 * q + 1))) = true) := by
  have t := hr.2.2.1 q hq
  have a := t.1.le
  have b := t.2.1.le
  constructor
  · intro h k
    rcases k with k | k
    · have := congrArg (fun x => bt x (nn (w (20 + 7 * q)))) h
      simp only [b_and, b_0] at this
      rw [k, ends_b hr hq (by omega)] at this
      simp at this
    · have := congrArg (fun x => bt x (nn (w (20 + 7 * q + 1)))) h
      simp only [b_and, b_0] at this
      rw [k, ends_b hr hq (by omega)] at this
      simp at this
  · intro h
    refine b_ext (fun i hi => ?_)
    rw [b_and, b_0, ends_b hr hq hi]
    by_cases e : i = nn (w (20 + 7 * q))
    · have : bt f i = false := by
        cases k : bt f i with
        | false => rfl
        | true => exact absurd (Or.inl (by rw [← e]; exact k)) h
      rw [this]; rfl
    · by_cases e2 : i = nn (w (20 + 7 * q + 1))
      · have : bt f i = false := by
          cases k : bt f i with
          | false => rfl
          | true => exact absurd (Or.inr (by rw [← e2]; exact k)) h
        rw [this]; rfl
      · simp [e, e2]
def BS (rc : Int32) (S : Nat → Prop) : Prop := ∀ v, v < 8 → (bt rc v = true ↔ S v)
theorem wn_loop {w : Row} {f : Int32} (hr : Rn w) : ∀ (n : Nat) (wd : Int32) (p : Nat), p ≤ 12 → 12 - p < n → ∀ v, v < 8 →
    (bt (bX5_withNeighbours_4 w f n wd p) v = true ↔ bt wd v = true ∨ ∃ q, p ≤ q ∧ q < nn (w 5) ∧ (bt f (nn (w (20 + 7 * q))) = true ∨ bt f (nn (w (20 + 7 * q + 1))) = true) ∧ (v = nn (w (20 + 7 * q)) ∨ v = nn (w (20 + 7 * q + 1)))) := by
  intro n
  induction n with
  | zero => intro wd p _ h; omega
  | succ n ih =>
    intro wd p hp hn v hv
    rw [bX5_withNeighbours_4]
    have h5 := hr.1.2.1.le
    have hc := cnt_le (c := w 5) (p := p) hr.1.2.1 (by omega)
    by_cases c : w 5 ≤ nI p
    · rw [if_pos c]
      have := hc.mp c
      exact ⟨fun q => Or.inl q, fun q => q.resolve_right (fun ⟨q, a, b, _⟩ => by omega)⟩
    · rw [if_neg c]
      have hp2 := hr.1.lt5 (by omega) c
      by_cases d : f &&& sX0_endsSet w p = 0
      · rw [if_pos d, ih wd (p + 1) (by omega) (by omega) v hv]
        have d' := (ends_and hr (by omega)).mp d
        constructor
        · rintro (q | ⟨q, a, b, e1, e2⟩)
          · exact Or.inl q
          · exact Or.inr ⟨q, by omega, b, e1, e2⟩
        · rintro (q | ⟨q, a, b, e1, e2⟩)
          · exact Or.inl q
          · refine Or.inr ⟨q, ?_, b, e1, e2⟩
            rcases Nat.lt_or_ge p q with h | h
            · exact h
            · exact absurd e1 (by rw [show q = p by omega]; exact d')
      · rw [if_neg d, ih _ (p + 1) (by omega) (by omega) v hv, b_or, ends_b hr (by omega) (by omega)]
        have d' : bt f (nn (w (20 + 7 * p))) = true ∨ bt f (nn (w (20 + 7 * p + 1))) = true := Classical.byContradiction fun k => d ((ends_and hr (by omega)).mpr k)
        constructor
        · rintro (q | ⟨q, a, b, e1, e2⟩)
          · rw [Bool.or_eq_true, Bool.or_eq_true] at q
            rcases q with q | q | q
            · exact Or.inl q
            · exact Or.inr ⟨p, by omega, hp2.1, d', Or.inl (of_decide_eq_true q)⟩
            · exact Or.inr ⟨p, by omega, hp2.1, d', Or.inr (of_decide_eq_true q)⟩
          · exact Or.inr ⟨q, by omega, b, e1, e2⟩
        · rintro (q | ⟨q, a, b, e1, e2⟩)
          · exact Or.inl (by rw [q]; rfl)
          · rcases Nat.lt_or_ge p q with h | h
            · exact Or.inr ⟨q, h, b, e1, e2⟩
            · have e : q = p := by omega
              subst e
              refine Or.inl ?_
              rw [Bool.or_eq_true, Bool.or_eq_true]
              rcases e2 with e2 | e2
              · exact Or.inr (Or.inl (decide_eq_true e2))
              · exact Or.inr (Or.inr (decide_eq_true e2))
theorem wn_step {w : Row} {rc : Int32} {n u : Nat} (hr : Rn w) (h : BS rc (rch w n u)) : BS (sX5_withNeighbours w rc) (rch w (n + 1) u) := by
  intro v hv
  unfold sX5_withNeighbours
  have h5 := hr.1.2.1.le
  rw [wn_loop hr 13 rc 0 (by omega) (by omega) v hv, h v hv]
  constructor
  · rintro (q | ⟨q, a, b, e1, e2⟩)
    · exact Or.inl q
    · have t := hr.2.2.1 q (by omega)
      have ta := t.1.le
      have tb := t.2.1.le
      rcases e1 with e1 | e1 <;> rcases e2 with e2 | e2
      · have := (h _ (by omega)).mp e1
        rw [e2]; exact Or.inl this
      · exact Or.inr ⟨_, (h _ (by omega)).mp e1, q, b, Or.inl ⟨rfl, e2.symm⟩⟩
      · exact Or.inr ⟨_, (h _ (by omega)).mp e1, q, b, Or.inr ⟨e2.symm, rfl⟩⟩
      · have := (h _ (by omega)).mp e1
        rw [e2]; exact Or.inl this
  · rintro (q | ⟨t, k1, q, b, k2⟩)
    · exact Or.inl q
    · have tt := hr.2.2.1 q (by omega)
      have ta := tt.1.le
      have tb := tt.2.1.le
      rcases k2 with ⟨k2, k3⟩ | ⟨k2, k3⟩
      · exact Or.inr ⟨q, by omega, b, Or.inl ((h _ (by omega)).mpr (by rw [k2]; exact k1)), Or.inr k3.symm⟩
      · exact Or.inr ⟨q, by omega, b, Or.inr ((h _ (by omega)).mpr (by rw [k3]; exact k1)), Or.inl k2.symm⟩
theorem test_b {rc : Int32} {v : Nat} (hv : v < 8) : (rc >>> (nI v &&& 31)) &&& 1 = 1 ↔ bt rc v = true := by
  have e : bt ((rc >>> (nI v &&& 31)) &&& 1) 0 = bt rc v := by
    rw [b_and, b_sshr v (by omega) rc (by omega), if_pos (by omega), Nat.add_zero, b_1 0 (by omega)]; simp
  constructor
  · intro h
    rw [← e, h, b_1 0 (by omega)]; rfl
  · intro h
    refine b_ext (fun i hi => ?_)
    by_cases i0 : i = 0
    · subst i0; rw [e, h, b_1 0 (by omega)]; rfl
    · rw [b_and, b_1 i hi, decide_eq_false i0, Bool.and_false]
theorem steps_loop {w : Row} {a b : Nat} (hr : Rn w) (hb : b < 8) : ∀ (n : Nat) (rc : Int32) (p : Nat), p ≤ 8 → 8 - p < n → BS rc (rch w p a) → (∀ k, k < p → ¬ rch w k a b) →
    (∃ d, d < 8 ∧ bX5_stepsBetween_7 w (nI a) (nI b) n rc p = nI d ∧ rch w d a b ∧ ∀ k, k < d → ¬ rch w k a b) ∨ (bX5_stepsBetween_7 w (nI a) (nI b) n rc p = -6 ∧ ∀ k, k < 8 → ¬ rch w k a b) := by
  intro n
  induction n with
  | zero => intro rc p _ h; omega
  | succ n ih =>
    intro rc p hp hn hB hk
    rw [bX5_stepsBetween_7]
    by_cases c : 8 ≤ nI p
    · rw [if_pos c]
      have : p = 8 := by
        rcases Nat.lt_or_ge p 8 with q | q
        · exact absurd c (nI_ge (b := 8) q (by decide))
        · omega
      subst this
      exact Or.inr ⟨rfl, hk⟩
    · rw [if_neg c]
      have hp2 := lit_lt (n := 8) c (by omega) (by omega)
      by_cases d : (rc >>> (nI b &&& 31)) &&& 1 = 1
      · rw [if_pos d]
        exact Or.inl ⟨p, hp2, rfl, (hB b hb).mp ((test_b hb).mp d), hk⟩
      · rw [if_neg d]
        refine ih _ (p + 1) (by omega) (by omega) (wn_step hr hB) (fun k hk' q => ?_)
        rcases Nat.lt_or_ge k p with h | h
        · exact hk k h q
        · exact d ((test_b hb).mpr ((hB b hb).mpr (by rw [show p = k by omega]; exact q)))
theorem steps_spec {w : Row} {a b : Nat} (hr : Rn w) (ha : a < 8) (hb : b < 8) : (∃ d, d < 8 ∧ sX5_stepsBetween w (nI a) (nI b) = nI d ∧ rch w d a b ∧ ∀ k, k < d → ¬ rch w k a b) ∨ (sX5_stepsBetween w (nI a) (nI b) = -6 ∧ ∀ k, k < 8 → ¬ rch w k a b) := by
  unfold sX5_stepsBetween
  refine steps_loop hr hb 9 _ 0 (by omega) (by omega) (fun v hv => ?_) (fun k hk => by omega)
  rw [bit_b (by omega) (by omega)]
  exact ⟨fun q => (of_decide_eq_true q).symm, fun q => decide_eq_true (Eq.symm q)⟩
