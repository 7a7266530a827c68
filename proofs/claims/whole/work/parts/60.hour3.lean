/-- carts of a set have waited for one hour more -/
def wtd (w : Row) (S : Nat → Bool) : Row := fun j => if 104 ≤ j ∧ j < 168 ∧ (j - 104) % 8 = 4 ∧ S ((j - 104) / 8) = true then w j + 1 else w j
theorem wtd_o {w : Row} {S : Nat → Bool} {j : Nat} (h : ¬ (104 ≤ j ∧ j < 168 ∧ (j - 104) % 8 = 4)) : wtd w S j = w j := by
  unfold wtd
  rw [if_neg (fun q => h ⟨q.1, q.2.1, q.2.2.1⟩)]
theorem wtd_4 {w : Row} {S : Nat → Bool} {c : Nat} (hc : c < 8) : wtd w S (104 + 8 * c + 4) = if S c = true then w (104 + 8 * c + 4) + 1 else w (104 + 8 * c + 4) := by
  unfold wtd
  have e : (104 + 8 * c + 4 - 104) / 8 = c := by omega
  rw [e]
  by_cases s : S c = true
  · rw [if_pos ⟨by omega, by omega, by omega, s⟩, if_pos s]
  · rw [if_neg (fun q => s q.2.2.2), if_neg s]
theorem wtd_ext {w : Row} {S S' : Nat → Bool} (h : ∀ c, c < 8 → S c = S' c) : wtd w S = wtd w S' := by
  funext j
  by_cases e : 104 ≤ j ∧ j < 168 ∧ (j - 104) % 8 = 4
  · obtain ⟨c, hc, rfl⟩ : ∃ c, c < 8 ∧ j = 104 + 8 * c + 4 := ⟨(j - 104) / 8, by omega, by omega⟩
    rw [wtd_4 hc, wtd_4 hc, h c hc]
  · rw [wtd_o e, wtd_o e]
theorem wtd_step {w : Row} {S S' : Nat → Bool} {p : Nat} (hp : p < 8) (h0 : S' p = false) (h1 : S p = true) (h : ∀ c, c < 8 → ¬ c = p → S c = S' c) : wtd (upd w (104 + 8 * p + 4) (w (104 + 8 * p + 4) + 1)) S' = wtd w S := by
  funext j
  by_cases e : 104 ≤ j ∧ j < 168 ∧ (j - 104) % 8 = 4
  · obtain ⟨c, hc, rfl⟩ : ∃ c, c < 8 ∧ j = 104 + 8 * c + 4 := ⟨(j - 104) / 8, by omega, by omega⟩
    rw [wtd_4 hc, wtd_4 hc]
    by_cases ec : c = p
    · subst ec
      rw [h0, h1, if_neg (by decide), if_pos rfl, upde]
    · rw [h c hc ec, updn (by omega)]
  · rw [wtd_o e, wtd_o e, updn (by omega)]
theorem wtd_none {w : Row} {S : Nat → Bool} (h : ∀ c, c < 8 → S c = false) : wtd w S = w := by
  funext j
  by_cases e : 104 ≤ j ∧ j < 168 ∧ (j - 104) % 8 = 4
  · obtain ⟨c, hc, rfl⟩ : ∃ c, c < 8 ∧ j = 104 + 8 * c + 4 := ⟨(j - 104) / 8, by omega, by omega⟩
    rw [wtd_4 hc, h c hc, if_neg (by decide)]
  · rw [wtd_o e]
theorem isW {w : Row} {c : Nat} : sX1_isWaiting w c = 0 ↔ w (104 + 8 * c + 2) = -6 := by
  unfold sX1_isWaiting
  by_cases e : w (104 + 8 * c + 2) = -6
  · rw [if_pos e]; exact ⟨fun _ => e, fun _ => rfl⟩
  · rw [if_neg e]; exact ⟨fun q => absurd q (by decide), fun q => absurd q e⟩
def S5 (w : Row) (p c : Nat) : Bool := decide (p ≤ c ∧ c < nn (w 6) ∧ ¬ w (104 + 8 * c + 2) = -6)
theorem ph5 : ∀ (n : Nat) (w : Row) (ov : Int32) (p : Nat), sm (w 6) 8 → p ≤ 8 → 8 - p < n → bX5_playHour_33 n w ov p = (ov, upd (wtd w (S5 w p)) 4 (w 4 + 1)) := by
  intro n
  induction n with
  | zero => intro w ov p _ _ h; omega
  | succ n ih =>
    intro w ov p h6 hp hn
    rw [bX5_playHour_33]
    by_cases c1 : w 6 ≤ nI p
    · have hq := (cnt_le (p := p) h6 (by omega)).mp c1
      rw [if_pos c1, wtd_none (fun c hc => by unfold S5; exact decide_eq_false (fun q => absurd q.2.1 (by omega)))]
    · rw [if_neg c1]
      have hp2 := (not_congr (cnt_le (p := p) h6 (by omega))).mp c1
      have := h6.le
      by_cases c2 : sX1_isWaiting w p = 0
      · rw [if_pos c2, ih w ov (p + 1) h6 (by omega) (by omega)]
        have c2' := isW.mp c2
        rw [wtd_ext (S := S5 w (p + 1)) (S' := S5 w p) (fun c hc => by
          unfold S5
          by_cases e : c = p
          · subst e
            rw [decide_eq_false (fun q => absurd q.1 (by omega)), decide_eq_false (fun q => q.2.2 c2')]
          · rw [decide_eq_decide]; exact ⟨fun q => ⟨by omega, q.2⟩, fun q => ⟨by omega, q.2⟩⟩)]
      · rw [if_neg c2]
        have c2' : ¬ w (104 + 8 * p + 2) = -6 := fun q => c2 (isW.mpr q)
        have e6 : upd w (104 + 8 * p + 4) (w (104 + 8 * p + 4) + 1) 6 = w 6 := updn (by omega)
        rw [ih _ ov (p + 1) (by rw [e6]; exact h6) (by omega) (by omega), updn (show ¬ 4 = 104 + 8 * p + 4 by omega)]
        rw [wtd_step (S := S5 w p) (by omega) (by unfold S5; exact decide_eq_false (fun q => absurd q.1 (by omega))) (by unfold S5; exact decide_eq_true ⟨by omega, by omega, c2'⟩) (fun c hc e => by
          unfold S5
          rw [e6, updn (show ¬ 104 + 8 * c + 2 = 104 + 8 * p + 4 by omega), decide_eq_decide]; exact ⟨fun q => ⟨by omega, q.2⟩, fun q => ⟨by omega, q.2⟩⟩)]
theorem ph7 : ∀ (n m : Nat) (w : Row) (ov : Int32) (p : Nat), Rn w → nn (w 10) = p + m → m < n → (ql w m p).Nodup → bX7_hour_41 n w ov p = (ov, upd (wtd w (fun c => decide (c ∈ ql w m p))) 4 (w 4 + 1)) := by
  intro n
  induction n with
  | zero => intro m w ov p _ _ h; omega
  | succ n ih =>
    intro m w ov p hr hm hn hd
    rw [bX7_hour_41]
    have h8 := hr.1.1.le
    have hc := cnt_le (c := w 10) (p := p) hr.1.1 (by omega)
    cases m with
    | zero =>
      rw [if_pos (hc.mpr (by omega)), wtd_none (fun c hc => decide_eq_false (by rw [ql]; exact List.not_mem_nil))]
    | succ m =>
      rw [if_neg (fun q => by have := hc.mp q; omega)]
      have hq := (hr.2.1 p (by omega)).le
      rw [ql] at hd ⊢
      obtain ⟨d1, d2⟩ := List.nodup_cons.mp hd
      generalize hx : nn (w (12 + p)) = x at *
      have r1 : Rn (upd w (104 + 8 * x + 4) (w (104 + 8 * x + 4) + 1)) := Rn_upd (by unfold bad; omega) hr
      have eq1 : ql (upd w (104 + 8 * x + 4) (w (104 + 8 * x + 4) + 1)) m (p + 1) = ql w m (p + 1) := ql_congr _ _ (fun k h1 h2 => updn (by omega))
      have e10 : upd w (104 + 8 * x + 4) (w (104 + 8 * x + 4) + 1) 10 = w 10 := updn (by omega)
      rw [ih m _ ov (p + 1) r1 (by rw [e10]; omega) (by omega) (by rw [eq1]; exact d2), updn (show ¬ 4 = 104 + 8 * x + 4 by omega), eq1]
      rw [wtd_step (S := fun c => decide (c ∈ x :: ql w m (p + 1))) (by omega) (decide_eq_false d1) (decide_eq_true List.mem_cons_self) (fun c hc e => by
        show decide (c ∈ x :: ql w m (p + 1)) = decide (c ∈ ql w m (p + 1))
        rw [decide_eq_decide]
        exact ⟨fun q => (List.mem_cons.mp q).resolve_left e, fun q => List.mem_cons_of_mem _ q⟩)]
theorem Rel_wtd {w r : Row} {S : Nat → Bool} (hr : Cn r) (h : Rel w r) : Rel (wtd w S) (wtd r S) := by
  have eqr := qs_congr (w := r) (w' := wtd r S) (wtd_o (by omega)) (fun k hk => wtd_o (by omega)) hr
  have eqw := qs_congr (w := w) (w' := wtd w S) (wtd_o (by omega)) (fun k hk => wtd_o (by omega)) (h.cn hr)
  refine ⟨fun k hk => ?_, ?_, fun k hk => ?_, fun k p q => ?_, fun c f hc hf hcf => ?_, fun k p q => ?_, fun i hi => ?_, fun c hc hn => ?_⟩
  · rw [wtd_o (by omega), wtd_o (by omega)]; exact h.j hk
  · rw [eqr, eqw]; exact h.q
  · rw [wtd_o (by omega)]; exact h.2.2.1 k hk
  · rw [wtd_o (by omega), wtd_o (by omega)]; exact h.b p q
  · rw [wtd_o (by omega)] at hcf
    by_cases e : f = 4
    · subst e
      rw [wtd_4 hc, wtd_4 hc, h.c hc hf hcf]
    · rw [wtd_o (by omega), wtd_o (by omega)]; exact h.c hc hf hcf
  · rw [wtd_o (by omega), wtd_o (by omega)]; exact h.g p q
  · rw [eqr, wtd_o (by omega), h.2.2.2.2.2.2.1 i hi]
    congr 1
    exact cntL_congr _ (fun c hc => by
      have := h.q8 hr c hc
      rw [wtd_o (by omega)])
  · rw [wtd_o (by omega)] at hn
    rw [wtd_o (by omega), wtd_o (by omega)]; exact h.2.2.2.2.2.2.2 c hc hn
theorem hour_end {w r : Row} {ov : Int32} (hI : Inv r) (h : Rel w r) : (bX5_playHour_33 9 w ov 0).1 = (bX7_hour_41 9 r ov 0).1 ∧ Rel (bX5_playHour_33 9 w ov 0).2 (bX7_hour_41 9 r ov 0).2 := by
  have hr := hI.1
  have h8 := hr.1.1.le
  have h6 := hr.1.2.2.le
  have h5 := hr.1.2.1.le
  have cw := h.cn hr.1
  rw [ph5 9 w ov 0 cw.2.2 (by omega) (by omega), ph7 9 (nn (r 10)) r ov 0 hr (by omega) (by omega) hI.2.1.1]
  refine ⟨rfl, ?_⟩
  have e4 : w 4 = r 4 := h.j (by omega)
  have eS : wtd w (S5 w 0) = wtd w (fun c => decide (c ∈ ql r (nn (r 10)) 0)) := wtd_ext (fun c hc => by
    unfold S5
    rw [h.j (show 6 < 11 by omega), decide_eq_decide]
    constructor
    · rintro ⟨-, q1, q2⟩
      rw [h.c (c := c) (f := 2) hc (by omega) (fun _ => q1)] at q2
      exact (hI.2.1.2.2 c q1).resolve_left q2
    · intro q
      obtain ⟨q1, k, q2, q3⟩ := hI.2.1.2.1 c q
      refine ⟨by omega, q1, ?_⟩
      rw [h.c (c := c) (f := 2) hc (by omega) (fun _ => q1), q3]
      exact nn_neg6 (by omega))
  show Rel (upd (wtd w (S5 w 0)) 4 (w 4 + 1)) (upd (wtd r _) 4 (r 4 + 1))
  rw [eS, e4]
  have cr : Cn (wtd r (fun c => decide (c ∈ ql r (nn (r 10)) 0))) := by
    unfold Cn
    rw [wtd_o (by omega), wtd_o (by omega), wtd_o (by omega)]; exact hr.1
  exact Rel_upd (by omega) (by omega) (by omega) (fun c hc => by omega) (by omega) cr (Rel_wtd hr.1 h)
theorem playHour_rel {w r : Row} (hI : Inv r) (h : Rel w r) : (sX5_playHour w).1 = (sX7_hour r).1 ∧ Rel (sX5_playHour w).2 (sX7_hour r).2 := by
  have key : ∀ (n : Nat) (w r : Row) (ov : Int32) (p : Nat), p ≤ 12 → 12 - p < n → Inv r → Rel w r → (bX5_playHour_4 n w ov p).1 = (bX7_hour_4 n r ov p).1 ∧ Rel (bX5_playHour_4 n w ov p).2 (bX7_hour_4 n r ov p).2 := by
    intro n
    induction n with
    | zero => intro w r ov p _ h; omega
    | succ n ih =>
      intro w r ov p hp hn hI h
      rw [bX5_playHour_4, bX7_hour_4, h.j (show 5 < 11 by omega)]
      by_cases c1 : r 5 ≤ nI p
      · rw [if_pos c1, if_pos c1]; exact hour_end hI h
      · rw [if_neg c1, if_neg c1]
        have hp2 := hI.1.1.lt5 (by omega) c1
        obtain ⟨a1, a2⟩ := letOver_rel hp2.1 hI h
        have I1 := Inv_opens hp2.1 hI
        rw [a1]
        rcases b01_opens (w := r) (i := p) with q | q
        · rw [if_pos q, q]; exact ih _ _ _ _ (by omega) (by omega) I1 a2
        · rw [if_neg (by rw [q]; decide), q]; exact ih _ _ _ _ (by omega) (by omega) I1 a2
  unfold sX5_playHour sX7_hour
  exact key 13 w r 0 0 (by omega) (by omega) hI h
theorem hours_rel {w r : Row} {x : Int32} (hI : Inv r) (h : Rel w r) : (bX5_passHours_33 x 100 w 0 0).1 = (sX7_hours r x).1 ∧ Rel (bX5_passHours_33 x 100 w 0 0).2 (sX7_hours r x).2 := by
  have key : ∀ (n : Nat) (w r : Row) (ov : Int32) (p : Nat), Inv r → Rel w r → (bX5_passHours_33 x n w ov p).1 = (bX7_hours_5 x n r ov p).1 ∧ Rel (bX5_passHours_33 x n w ov p).2 (bX7_hours_5 x n r ov p).2 := by
    intro n
    induction n with
    | zero => intro w r ov p hI h; exact ⟨rfl, h⟩
    | succ n ih =>
      intro w r ov p hI h
      rw [bX5_passHours_33, bX7_hours_5]
      by_cases c1 : x ≤ nI p
      · rw [if_pos c1, if_pos c1]; exact ⟨rfl, h⟩
      · rw [if_neg c1, if_neg c1]
        obtain ⟨a1, a2⟩ := playHour_rel hI h
        rw [a1]
        exact ih _ _ _ _ (Inv_hour hI) a2
  unfold sX7_hours
  exact key 100 w r 0 0 hI h
