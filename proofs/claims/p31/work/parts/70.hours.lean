/-! many hours: pass, would, overIn -/
def itR : Nat → Row → Row
  | 0, w => w
  | n + 1, w => itR n (sX5_playHour w).2
def itS : Nat → Row → Int32
  | 0, _ => 0
  | n + 1, w => (sX5_playHour w).1 + itS n (sX5_playHour w).2
theorem itR_add : ∀ (a b : Nat) (w : Row), itR (a + b) w = itR b (itR a w) := by
  intro a
  induction a with
  | zero => intro b w; rw [Nat.zero_add]; rfl
  | succ a ih =>
    intro b w
    rw [show a + 1 + b = (a + b) + 1 by omega]
    exact ih b _
section HS
variable {w : Row}
theorem cnt_loop : ∀ (n : Nat) (v : Row) (ov : Int32) (p : Nat), p ≤ nn (w 5) → nn (w 5) - p < n → Turn w v p → sm ov p → sm (bX5_playHour_4 n v ov p).1 (nn (w 5)) := by
  intro n
  induction n with
  | zero => intro v ov p _ h; omega
  | succ n ih =>
    intro v ov p hp hn hT ho
    have h5 := hT.1.cn.2.1
    have e5 := hT.2.1.1
    have n5 := hT.1.a.n5
    rw [e5] at n5
    rw [bX5_playHour_4]
    have hcl := cnt_le (c := v 5) (p := p) h5 (by omega)
    rw [e5] at hcl
    by_cases c : v 5 ≤ nI p
    · rw [if_pos c]
      rw [e5] at c
      have a := hend_loop (v := v) (ov := ov) hT.1.cn.2.2 9 0 (by omega) (by have := hT.1.a.n6; omega)
      rw [hend_0] at a
      rw [a]
      have o2 := ho.2
      exact (show sm ov (nn (w 5)) from ⟨ho.1, by omega⟩)
    · rw [if_neg c]
      rw [e5] at c
      have hp2 : p < nn (w 5) := by
        rcases Nat.lt_or_ge p (nn (w 5)) with q | q
        · exact q
        · exact absurd (hcl.mpr q) c
      have hp' : p < nn (v 5) := by rw [e5]; exact hp2
      refine ih _ _ (p + 1) (by omega) (by omega) (turn_s hp2 hT) ?_
      have o0 := ho.1
      have o1 := ho.2
      cases hc : cmr v p with
      | none =>
        rw [(letOver_none hp' hc hT.1).1, show ov + 0 = ov from Int32.add_zero ov]
        exact ⟨o0, by omega⟩
      | some c0 =>
        rw [(letOver_some hp' hc hT.1).1]
        have := inc_toInt (x := ov) (n := 12) (by omega) (by omega)
        exact ⟨by omega, by omega⟩
theorem hour_cnt (h : WI w) : sm (sX5_playHour w).1 12 := by
  have n5 := h.a.n5
  exact sm_w (cnt_loop (w := w) 13 w 0 0 (by omega) (by omega) (turn_0 h) ⟨by decide, by decide⟩) n5
theorem hour_4 (hh : sm (w 4) 1000000) (h : WI w) : ((sX5_playHour w).2 4).toInt = (w 4).toInt + 1 := by
  rw [(hour hh h).2.1.2.2]
  exact inc_toInt hh.2 (by omega)
end HS
theorem it_ok : ∀ (n : Nat) (w : Row), WI w → (w 4).toInt + n ≤ 1000000 → WI (itR n w) ∧ itR n w 5 = w 5 ∧ itR n w 6 = w 6 ∧ (itR n w 4).toInt = (w 4).toInt + n := by
  intro n
  induction n with
  | zero => intro w h _; exact ⟨h, rfl, rfl, by show (w 4).toInt = _; omega⟩
  | succ n ih =>
    intro w h hh
    have h0 := h.s.2.2.2.2.2
    have hm : sm (w 4) 1000000 := ⟨h0, by omega⟩
    have hr := hour hm h
    have h4 := hour_4 hm h
    obtain ⟨a, b, c, d⟩ := ih (sX5_playHour w).2 hr.1 (by omega)
    exact ⟨a, b.trans hr.2.1.1, c.trans hr.2.1.2.1, by show (itR n (sX5_playHour w).2 4).toInt = _; omega⟩
theorem it_cnt : ∀ (n : Nat) (w : Row), n ≤ 1000 → WI w → (w 4).toInt + n ≤ 1000000 → sm (itS n w) (12 * n) := by
  intro n
  induction n with
  | zero => intro w _ h _; exact (show sm (0 : Int32) (12 * 0) from ⟨by decide, by decide⟩)
  | succ n ih =>
    intro w hn h hh
    have h0 := h.s.2.2.2.2.2
    have hm : sm (w 4) 1000000 := ⟨h0, by omega⟩
    have hr := hour hm h
    have h4 := hour_4 hm h
    have hc := hour_cnt h
    have hi := ih (sX5_playHour w).2 (by omega) hr.1 (by omega)
    have c0 := hc.1
    have c1 := hc.2
    have i0 := hi.1
    have i1 := hi.2
    have e : ((sX5_playHour w).1 + itS n (sX5_playHour w).2).toInt = (sX5_playHour w).1.toInt + (itS n (sX5_playHour w).2).toInt := ta (by omega)
    show sm ((sX5_playHour w).1 + itS n (sX5_playHour w).2) _
    exact ⟨by omega, by omega⟩
/-- a cart waits on, or came over once and waits no more -/
theorem it_wait {c : Nat} (hc : c < 8) : ∀ (n : Nat) (w : Row), WI w → (w 4).toInt + n ≤ 1000000 → (itR n w (104 + 8 * c + 2) = w (104 + 8 * c + 2) ∧ itR n w (104 + 8 * c + 5) = w (104 + 8 * c + 5)) ∨ (¬ w (104 + 8 * c + 2) = -6 ∧ itR n w (104 + 8 * c + 2) = -6 ∧ itR n w (104 + 8 * c + 5) = w (104 + 8 * c + 5) + 1) := by
  intro n
  induction n with
  | zero => intro w _ _; exact Or.inl ⟨rfl, rfl⟩
  | succ n ih =>
    intro w h hh
    have h0 := h.s.2.2.2.2.2
    have hm : sm (w 4) 1000000 := ⟨h0, by omega⟩
    have hr := hour hm h
    have h4 := hour_4 hm h
    have hi := ih (sX5_playHour w).2 hr.1 (by omega)
    have hcc := hr.2.2 c hc
    have n5 := h.a.n5
    show (itR n (sX5_playHour w).2 _ = _ ∧ itR n (sX5_playHour w).2 _ = _) ∨ (_ ∧ itR n (sX5_playHour w).2 _ = _ ∧ itR n (sX5_playHour w).2 _ = _)
    by_cases q : ∃ b, b < nn (w 5) ∧ cmr w b = some c
    · obtain ⟨e2, e5⟩ := hcc.1 q
      have hw : ¬ w (104 + 8 * c + 2) = -6 := by
        obtain ⟨b, hb, hbc⟩ := q
        rw [(cmr_mem hbc).2]
        exact nn_neg6 (by omega)
      rcases hi with ⟨a, b⟩ | ⟨a, -, -⟩
      · exact Or.inr ⟨hw, a.trans e2, b.trans e5⟩
      · exact absurd e2 a
    · obtain ⟨e2, e5⟩ := hcc.2 q
      rcases hi with ⟨a, b⟩ | ⟨a, b, d⟩
      · exact Or.inl ⟨a.trans e2, b.trans e5⟩
      · exact Or.inr ⟨by rw [← e2]; exact a, b, by rw [d, e5]⟩
theorem it_stay {c a b : Nat} {w : Row} (hc : c < 8) (h : WI w) (hh : (w 4).toInt + (a + b : Nat) ≤ 1000000) (he : itR a w (104 + 8 * c + 2) = -6) : itR (a + b) w (104 + 8 * c + 2) = -6 := by
  obtain ⟨h1, -, -, h4⟩ := it_ok a w h (by omega)
  rw [itR_add]
  rcases it_wait hc b (itR a w) h1 (by omega) with ⟨x, -⟩ | ⟨-, x, -⟩
  · exact x.trans he
  · exact x
/-- pass -/
theorem pass_loop {h : Nat} (hh : h ≤ 99) : ∀ (n : Nat) (w : Row) (ov : Int32) (p : Nat), p ≤ h → h - p < n → bX5_passHours_33 (nI h) n w ov p = (ov + itS (h - p) w, itR (h - p) w) := by
  intro n
  induction n with
  | zero => intro w ov p _ q; omega
  | succ n ih =>
    intro w ov p hp hn
    rw [bX5_passHours_33]
    by_cases c : nI h ≤ nI p
    · have e : p = h := by
        have := (nI_leI (a := h) (b := p) (by omega) (by omega)).mp c
        omega
      rw [if_pos c, e, Nat.sub_self]
      show (ov, w) = (ov + 0, w)
      rw [Int32.add_zero]
    · rw [if_neg c]
      have hp2 : p < h := by
        rcases Nat.lt_or_ge p h with q | q
        · exact q
        · exact absurd (nI_le q (by omega)) c
      rw [ih _ _ (p + 1) (by omega) (by omega)]
      obtain ⟨m, hm⟩ : ∃ m, h - p = m + 1 := ⟨h - p - 1, by omega⟩
      rw [hm, show h - (p + 1) = m by omega]
      show _ = (ov + ((sX5_playHour w).1 + itS m (sX5_playHour w).2), itR m (sX5_playHour w).2)
      rw [Int32.add_assoc]
theorem pass_eq {h : Nat} {w : Row} (h1 : 1 ≤ h) (h2 : h ≤ 99) (h0 : 0 ≤ (w 4).toInt) (hh : (w 4).toInt + h ≤ 9999) : sX5_passHours w (nI h) = (itS h w, itR h w) := by
  unfold sX5_passHours
  have e : (w 4 + nI h).toInt = (w 4).toInt + h := by
    rw [ta (by rw [nI_toInt (by omega)]; omega), nI_toInt (by omega)]
  have c1 : ¬ nI h < 1 := by
    rw [Int32.lt_iff_toInt_lt, nI_toInt (by omega), show (1 : Int32).toInt = 1 from by decide]; omega
  have c2 : nI h ≤ 99 := by
    rw [Int32.le_iff_toInt_le, nI_toInt (by omega), show (99 : Int32).toInt = 99 from by decide]; omega
  have c3 : w 4 + nI h ≤ 9999 := by
    rw [Int32.le_iff_toInt_le, e, show (9999 : Int32).toInt = 9999 from by decide]; omega
  rw [if_neg c1, if_pos c2, if_pos c3, pass_loop h2 100 w 0 0 (by omega) (by omega), Nat.sub_zero, Int32.zero_add]
/-- would -/
def wval (v u : Row) (o y : Int32) : Int32 := if y = 0 then o else if y = 1 then sX5_sumOverCarts v 6 - sX5_sumOverCarts u 6 else if y = 2 then sX5_sumOverCarts v 7 - sX5_sumOverCarts u 7 else sX5_waitingSet v
theorem would_loop {g : GS} {h : Nat} {y : Int32} (hh : h ≤ 99) : ∀ (n : Nat) (v : Row) (ov : Int32) (p : Nat), p ≤ h → h - p < n → bX6_would_38 (nI h) y n (upW g 1 v) ov p = (wval (itR (h - p) v) (g.1 0) (ov + itS (h - p) v) y, upW g 1 (itR (h - p) v)) := by
  intro n
  induction n with
  | zero => intro v ov p _ q; omega
  | succ n ih =>
    intro v ov p hp hn
    rw [bX6_would_38]
    have e0 : (upW g 1 v).1 0 = g.1 0 := upW_ne (by omega)
    have e1 : (upW g 1 v).1 1 = v := upW_1
    by_cases c : nI h ≤ nI p
    · have e : p = h := by
        have := (nI_leI (a := h) (b := p) (by omega) (by omega)).mp c
        omega
      rw [if_pos c, e, Nat.sub_self, e0, e1]
      show _ = (wval v (g.1 0) (ov + 0) y, upW g 1 v)
      rw [Int32.add_zero]
      unfold wval
      by_cases y0 : y = 0
      · rw [if_pos y0, if_pos y0]
      rw [if_neg y0, if_neg y0]
      by_cases y1 : y = 1
      · rw [if_pos y1, if_pos y1]
      rw [if_neg y1, if_neg y1]
      by_cases y2 : y = 2
      · rw [if_pos y2, if_pos y2]
      rw [if_neg y2, if_neg y2]
    · rw [if_neg c, e1, upW_upW]
      have hp2 : p < h := by
        rcases Nat.lt_or_ge p h with q | q
        · exact q
        · exact absurd (nI_le q (by omega)) c
      rw [ih _ _ (p + 1) (by omega) (by omega)]
      obtain ⟨m, hm⟩ : ∃ m, h - p = m + 1 := ⟨h - p - 1, by omega⟩
      rw [hm, show h - (p + 1) = m by omega]
      show _ = (wval (itR m (sX5_playHour v).2) (g.1 0) (ov + ((sX5_playHour v).1 + itS m (sX5_playHour v).2)) y, upW g 1 (itR m (sX5_playHour v).2))
      rw [Int32.add_assoc]
theorem would_eq {g : GS} {h : Nat} {y : Int32} (h1 : 1 ≤ h) (h2 : h ≤ 99) (hy : ¬ sX6_isBelow y 4 = 0) : sX6_would g (nI h) y = (wval (itR h (g.1 0)) (g.1 0) (itS h (g.1 0)) y, upW g 1 (itR h (g.1 0))) := by
  unfold sX6_would
  have c1 : ¬ nI h < 1 := by
    rw [Int32.lt_iff_toInt_lt, nI_toInt (by omega), show (1 : Int32).toInt = 1 from by decide]; omega
  have c2 : ¬ 99 < nI h := by
    rw [Int32.lt_iff_toInt_lt, nI_toInt (by omega), show (99 : Int32).toInt = 99 from by decide]; omega
  rw [if_neg c1, if_neg c2, if_neg hy, would_loop h2 100 _ 0 0 (by omega) (by omega), Nat.sub_zero, Int32.zero_add]
/-- overIn -/
theorem over_loop {g : GS} {x : Int32} {c : Nat} {w : Row} : ∀ (n p : Nat), 1 ≤ p → p ≤ 101 → 101 - p < n → (∀ k, k < p → ¬ itR k w (104 + 8 * c + 2) = -6) →
    (∃ m, (1 ≤ m ∧ m ≤ 100) ∧ (bX6_overIn_38 x n (upW g 1 (itR (p - 1) w)) c p).1 = nI m ∧ itR m w (104 + 8 * c + 2) = -6 ∧ ∀ k, k < m → ¬ itR k w (104 + 8 * c + 2) = -6) ∨
    ((bX6_overIn_38 x n (upW g 1 (itR (p - 1) w)) c p).1 = -6 ∧ ∀ k, k ≤ 100 → ¬ itR k w (104 + 8 * c + 2) = -6) := by
  intro n
  induction n with
  | zero => intro p _ _ h; omega
  | succ n ih =>
    intro p h1 hp hn hk
    rw [bX6_overIn_38]
    by_cases c1 : 100 < nI p
    · rw [if_pos c1]
      have : 100 < p := by
        rw [Int32.lt_iff_toInt_lt, nI_toInt (by omega), show (100 : Int32).toInt = 100 from by decide] at c1
        omega
      exact Or.inr ⟨rfl, fun k hk' => hk k (by omega)⟩
    · rw [if_neg c1]
      have hp2 : p ≤ 100 := by
        rw [Int32.lt_iff_toInt_lt, nI_toInt (by omega), show (100 : Int32).toInt = 100 from by decide] at c1
        omega
      have e1 : (upW g 1 (itR (p - 1) w)).1 1 = itR (p - 1) w := upW_1
      have e2 : (sX5_playHour (itR (p - 1) w)).2 = itR p w := by
        obtain ⟨m, rfl⟩ : ∃ m, p = m + 1 := ⟨p - 1, by omega⟩
        rw [show m + 1 - 1 = m by omega, itR_add m 1 w]
        rfl
      rw [e1, upW_upW, e2, upW_1]
      by_cases c2 : itR p w (104 + 8 * c + 2) = -6
      · have : sX1_isWaiting (itR p w) c = 0 := if_pos c2
        rw [if_pos this]
        exact Or.inl ⟨p, ⟨h1, hp2⟩, rfl, c2, hk⟩
      · have : ¬ sX1_isWaiting (itR p w) c = 0 := by
          unfold sX1_isWaiting
          rw [if_neg c2]; decide
        rw [if_neg this]
        have := ih (p + 1) (by omega) (by omega) (by omega) (fun k hk' => by
          by_cases e : k = p
          · subst e; exact c2
          · exact hk k (by omega))
        rw [show p + 1 - 1 = p by omega] at this
        exact this
theorem cartOf_in {w : Row} {c : Nat} (hcn : Cn w) (hc : c < nn (w 6)) : sX5_cartOf w (nI c) = some c := by
  have h6 := hcn.2.2.le
  unfold sX5_cartOf
  rw [if_neg (isB_sm (n := 8) (sm_nI (by omega) (by omega)) hcn.2.2 (by rw [nn_nI (by omega)]; exact hc)), nn_nI (by omega)]
theorem cartOf_out {w : Row} {c : Nat} (hcn : Cn w) (hc : nn (w 6) ≤ c) (hb : c < 2 ^ 31) : sX5_cartOf w (nI c) = none := by
  unfold sX5_cartOf
  rw [if_pos (Decidable.byContradiction fun q => by
    have := isB_iff.mp q
    rw [nI_toInt hb, ← nn_toInt hcn.2.2.1] at this
    omega)]
theorem bridgeOf_in {w : Row} {i : Nat} (hcn : Cn w) (hi : i < nn (w 5)) : sX5_bridgeOf w (nI i) = some i := by
  have h5 := hcn.2.1.le
  unfold sX5_bridgeOf
  rw [if_neg (isB_sm (n := 12) (sm_nI (by omega) (by omega)) hcn.2.1 (by rw [nn_nI (by omega)]; exact hi)), nn_nI (by omega)]
theorem bridgeOf_no {w : Row} (hcn : Cn w) : sX5_bridgeOf w (-6) = none := by
  unfold sX5_bridgeOf
  rw [if_pos (Decidable.byContradiction fun q => by
    have := isB_iff.mp q
    rw [show (-6 : Int32).toInt = -6 from by decide] at this
    omega)]
theorem overIn_eq {g : GS} {c : Nat} (hcn : Cn (g.1 0)) (hc : c < nn (g.1 0 6)) (hw : ¬ (g.1 0) (104 + 8 * c + 2) = -6) :
    (∃ m, (1 ≤ m ∧ m ≤ 100) ∧ (sX6_overIn g (nI c)).1 = nI m ∧ itR m (g.1 0) (104 + 8 * c + 2) = -6 ∧ ∀ k, k < m → ¬ itR k (g.1 0) (104 + 8 * c + 2) = -6) ∨
    ((sX6_overIn g (nI c)).1 = -6 ∧ ∀ k, k ≤ 100 → ¬ itR k (g.1 0) (104 + 8 * c + 2) = -6) := by
  unfold sX6_overIn
  rw [upW_1, cartOf_in hcn hc, oe_some rfl, if_neg (show ¬ sX1_isWaiting (g.1 0) c = 0 by unfold sX1_isWaiting; rw [if_neg hw]; decide)]
  exact over_loop (g := g) (x := nI c) (c := c) (w := g.1 0) 101 1 (by omega) (by omega) (by omega) (fun k hk => by
    rw [show k = 0 by omega]
    exact hw)
theorem overIn_no {g : GS} {c : Nat} (hcn : Cn (g.1 0)) (hc : c < nn (g.1 0 6)) (hw : (g.1 0) (104 + 8 * c + 2) = -6) : (sX6_overIn g (nI c)).1 = -5 := by
  unfold sX6_overIn
  rw [upW_1, cartOf_in hcn hc, oe_some rfl, if_pos (show sX1_isWaiting (g.1 0) c = 0 from if_pos hw)]
theorem overIn_out {g : GS} {c : Nat} (hcn : Cn (g.1 0)) (hc : nn (g.1 0 6) ≤ c) (hb : c < 2 ^ 31) : (sX6_overIn g (nI c)).1 = -1 := by
  unfold sX6_overIn
  rw [upW_1, cartOf_out hcn hc hb, oe_none rfl]
/-! what only looks ahead leaves all but the second world -/
def Sim (g g' : GS) : Prop := (∀ k, ¬ k = 1 → g'.1 k = g.1 k) ∧ g'.2 = g.2
theorem Sim.rf {g : GS} : Sim g g := ⟨fun _ _ => rfl, rfl⟩
theorem Sim.tr {g g' g'' : GS} (h : Sim g g') (h' : Sim g' g'') : Sim g g'' := ⟨fun k hk => (h'.1 k hk).trans (h.1 k hk), h'.2.trans h.2⟩
theorem Sim_up {g : GS} {v : Row} : Sim g (upW g 1 v) := ⟨fun _ hk => upW_ne hk, rfl⟩
theorem Sim_i {β : Type} {g : GS} {c : Prop} {i : Decidable c} {a b : β × GS} (h1 : Sim g a.2) (h2 : Sim g b.2) : Sim g (@ite _ c i a b).2 := by cases i <;> assumption
theorem Sim_o {β : Type} {g : GS} {o : Option Nat} {a : β × GS} {f : Nat → β × GS} (h1 : Sim g a.2) (h2 : ∀ q, Sim g (f q).2) : Sim g (oe o a f).2 := by
  cases o with
  | none => exact h1
  | some q => exact h2 q
theorem Sim_p {β : Type} {g g' : GS} {v : β} (h : Sim g g') : Sim g (v, g').2 := h
theorem Sim_over {g : GS} {x : Int32} : Sim g (sX6_overIn g x).2 := by
  have key : ∀ (n : Nat) (g' : GS) (q p : Nat), Sim g g' → Sim g (bX6_overIn_38 x n g' q p).2 := by
    intro n
    induction n with
    | zero => intro g' q p h; exact h
    | succ n ih =>
      intro g' q p h
      rw [bX6_overIn_38]
      exact Sim_i (Sim_p h) (Sim_i (Sim_p (h.tr Sim_up)) (ih _ _ _ (h.tr Sim_up)))
  unfold sX6_overIn
  exact Sim_o (Sim_p Sim_up) (fun q => Sim_i (Sim_p Sim_up) (key _ _ _ _ Sim_up))
