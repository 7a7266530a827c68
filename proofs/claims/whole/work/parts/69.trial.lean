/-! what hours would bring, side by side -/
theorem hour56 {w : Row} (hr : Rn w) : (sX7_hour w).2 5 = w 5 ∧ (sX7_hour w).2 6 = w 6 := by
  have k2 : ∀ (n : Nat) (w : Row) (ov : Int32) (p : Nat), p ≤ 8 → Rn w → (bX7_hour_41 n w ov p).2 5 = w 5 ∧ (bX7_hour_41 n w ov p).2 6 = w 6 := by
    intro n
    induction n with
    | zero => intro w ov p _ _; exact ⟨rfl, rfl⟩
    | succ n ih =>
      intro w ov p hp hr
      rw [bX7_hour_41]
      by_cases c : w (10) ≤ nI p
      · rw [if_pos c]
        show upd w 4 (w 4 + 1) 5 = w 5 ∧ upd w 4 (w 4 + 1) 6 = w 6
        exact ⟨updn (by omega), updn (by omega)⟩
      · rw [if_neg c]
        have hp2 := hr.1.lt10 (by omega) c
        have hq9 := (hr.2.1 p (by omega)).le
        obtain ⟨a, b⟩ := ih (upd w (104 + 8 * (nn (w (12 + p))) + 4) ((w (104 + 8 * (nn (w (12 + p))) + 4)) + 1)) ov (p + 1) (by omega) (Rn_upd (by unfold bad; omega) hr)
        exact ⟨a.trans (u5 (by omega)), b.trans (u6 (by omega))⟩
  have k1 : ∀ (n : Nat) (w : Row) (ov : Int32) (p : Nat), p ≤ 12 → Rn w → (bX7_hour_4 n w ov p).2 5 = w 5 ∧ (bX7_hour_4 n w ov p).2 6 = w 6 := by
    intro n
    induction n with
    | zero => intro w ov p _ _; exact ⟨rfl, rfl⟩
    | succ n ih =>
      intro w ov p hp hr
      rw [bX7_hour_4]
      by_cases c : w (5) ≤ nI p
      · rw [if_pos c]; exact k2 _ _ _ _ (by omega) hr
      · rw [if_neg c]
        have hp2 := hr.1.lt5 (by omega) c
        obtain ⟨o1, o2⟩ := op5 (i := p) hr (by omega)
        by_cases d : (sX7_opens w p).1 = 0
        · rw [if_pos d]
          obtain ⟨a, b⟩ := ih (sX7_opens w p).2 (ov + 0) (p + 1) (by omega) (Rn_opens (by omega) hr)
          exact ⟨a.trans o1, b.trans o2⟩
        · rw [if_neg d]
          obtain ⟨a, b⟩ := ih (sX7_opens w p).2 (ov + 1) (p + 1) (by omega) (Rn_opens (by omega) hr)
          exact ⟨a.trans o1, b.trans o2⟩
  unfold sX7_hour
  exact k1 _ _ _ _ (by omega) hr
theorem RG_trial {g : GS} {w' r' : Row} (h : RG g) (hw : Cn w') (hr : Inv r') : RG (upS (upW g 1 w') 9 r') := by
  obtain ⟨hN, hI, hR, hH, hS, hP⟩ := h
  have bst := hI.2.2.le
  refine ⟨Gn_upW hN hw, Gi_upS (g := upW g 1 w') hI hr, ?_, ⟨hH.1, fun k hk => ?_⟩, fun s hs => ?_, hP⟩
  · show Rel ((upW g 1 w').1 0) ((upS g 9 r').2.2.1 0)
    rw [upW_ne (by omega), upS_ne (by omega)]; exact hR
  · have hk' : k < nn (g.2.2.2 0) := hk
    show Rel ((upW g 1 w').1 (2 + (nn (g.2.1 0) + 6 - k) % 7)) ((upS g 9 r').2.2.1 (nn (g.2.2.2 0) - k))
    rw [upW_ne (by omega), upS_ne (by omega)]; exact hH.2 k hk'
  · have := hS s hs
    show g.2.1 (10 + s) = g.2.2.2 (10 + s) ∧ (¬ g.2.2.2 (10 + s) = 0 → Rel ((upW g 1 w').1 (9 + s)) ((upS g 9 r').2.2.1 (7 + s)))
    rw [upW_ne (by omega), upS_ne (by omega)]; exact this
theorem ol {x : Int32} : ∀ (n m : Nat) (G H : GS) (q p : Nat), p ≤ 100 → 100 - p < n → 100 - p < m → q < nn (H.2.2.1 9 6) → Rel (G.1 1) (H.2.2.1 9) → Inv (H.2.2.1 9) → ¬ H.2.2.1 9 (104 + 8 * q + 2) = -6 →
    ∃ a w' r', bX6_overIn_38 x n G q (p + 1) = (a, upW G 1 w') ∧ bX7_overIn_43 x m H q p = (a, upS H 9 r') ∧ Cn w' ∧ Inv r' := by
  intro n
  induction n with
  | zero => intro m G H q p _ h; omega
  | succ n ih =>
    intro m G H q p hp hn hm hq hR hI ha
    cases m with
    | zero => omega
    | succ m =>
      rw [bX6_overIn_38, bX7_overIn_43]
      have h6 := hI.1.1.2.2.le
      by_cases c : p = 100
      · subst c
        refine ⟨-6, G.1 1, H.2.2.1 9, ?_, ?_, hR.cn hI.1.1, hI⟩
        · rw [if_pos (show (100 : Int32) < nI (100 + 1) by decide), upW_self]
        · rw [if_pos (show (100 : Int32) ≤ nI 100 by decide), upS_self]
          unfold bX7_overIn_79
          rw [if_neg ha]
      · have c1 : ¬ (100 : Int32) < nI (p + 1) := nI_nlt (b := p + 1) (a := 100) (by omega) (by omega)
        have c2 : ¬ (100 : Int32) ≤ nI p := nI_ge (a := p) (b := 100) (by omega) (by omega)
        rw [if_neg c1, if_neg c2, if_neg ha, upW_1]
        obtain ⟨-, hR2⟩ := playHour_rel hI hR
        have hI2 := Inv_hour hI
        have q6 : q < nn ((sX7_hour (H.2.2.1 9)).2 6) := by rw [(hour56 hI.1).2]; exact hq
        have ea : (sX5_playHour (G.1 1)).2 (104 + 8 * q + 2) = (sX7_hour (H.2.2.1 9)).2 (104 + 8 * q + 2) := hR2.c (f := 2) (by omega) (by omega) (fun _ => q6)
        by_cases d : (sX7_hour (H.2.2.1 9)).2 (104 + 8 * q + 2) = -6
        · rw [if_pos (isW.mpr (ea.trans d))]
          refine ⟨nI (p + 1), (sX5_playHour (G.1 1)).2, (sX7_hour (H.2.2.1 9)).2, rfl, ?_, hR2.cn hI2.1.1, hI2⟩
          cases m with
          | zero => omega
          | succ m =>
            have o : bX7_overIn_79 x (upS H 9 (sX7_hour (H.2.2.1 9)).2) q (p + 1) = (nI (p + 1), upS H 9 (sX7_hour (H.2.2.1 9)).2) := by
              unfold bX7_overIn_79
              rw [upS_1, if_pos d]
            rw [bX7_overIn_43, upS_1, if_pos d, o]
            by_cases e : (100 : Int32) ≤ nI (p + 1)
            · rw [if_pos e]
            · rw [if_neg e]
        · rw [if_neg (fun k => d (ea.symm.trans (isW.mp k)))]
          obtain ⟨a, w', r', i1, i2, i3, i4⟩ := ih m (upW G 1 (sX5_playHour (G.1 1)).2) (upS H 9 (sX7_hour (H.2.2.1 9)).2) q (p + 1) (by omega) (by omega) (by omega) (by rw [upS_1]; exact q6) (by rw [upW_1, upS_1]; exact hR2) (by rw [upS_1]; exact hI2) (by rw [upS_1]; exact d)
          refine ⟨a, w', r', ?_, ?_, i3, i4⟩
          · rw [i1, upW_upW]
          · rw [i2, upS_upS]
section TR
variable {g : GS} {x y : Int32}
theorem overIn_ok (h : RG g) : OKs g (sX6_overIn g x) (sX7_overIn (sX6_overIn g x).2 x) := by
  have hI := h.2.1.1 0 (by omega)
  have hR := h.2.2.1
  have hr := hI.1
  have cw := hR.cn hr.1
  have T9 : RG (upW g 1 (g.1 0)) := by
    have := RG_trial (w' := g.1 0) (r' := g.2.2.1 9) h cw (h.2.1.1 9 (by omega))
    rw [show upS (upW g 1 (g.1 0)) 9 (g.2.2.1 9) = upW g 1 (g.1 0) from upS_self (g := upW g 1 (g.1 0)) (k := 9)] at this
    exact this
  unfold sX6_overIn
  rw [upW_1, cartOf_E hr.1 hR]
  by_cases t1 : sX7_isCart (g.2.2.1 0) x = 0
  · rw [if_pos t1, oe_none rfl]
    unfold sX7_overIn
    rw [if_pos (show sX7_isCart ((((-1 : Int32), upW g 1 (g.1 0)).2).2.2.1 0) x = 0 from t1)]
    exact ⟨rfl, rfl, T9⟩
  rw [if_neg t1, oe_some rfl]
  have hC := isCart_of hr.1 t1
  have ea : g.1 0 (104 + 8 * nn x + 2) = g.2.2.1 0 (104 + 8 * nn x + 2) := hR.c (f := 2) hC.2.2 (by omega) (fun _ => hC.2.1)
  by_cases t4 : g.2.2.1 0 (104 + 8 * nn x + 2) = -6
  · rw [if_pos (isW.mpr (ea.trans t4))]
    unfold sX7_overIn
    rw [if_neg (show ¬ sX7_isCart ((((-5 : Int32), upW g 1 (g.1 0)).2).2.2.1 0) x = 0 from t1), if_pos (show (((-5 : Int32), upW g 1 (g.1 0)).2).2.2.1 0 (104 + 8 * nn x + 2) = -6 from t4)]
    exact ⟨rfl, rfl, T9⟩
  rw [if_neg (fun k => t4 (ea.symm.trans (isW.mp k)))]
  have K : ∀ H : GS, H.2.2.1 0 = g.2.2.1 0 → ∃ a w' r', bX6_overIn_38 x 101 (upW g 1 (g.1 0)) (nn x) 1 = (a, upW (upW g 1 (g.1 0)) 1 w') ∧ bX7_overIn_43 x 101 (upS H 9 (H.2.2.1 0)) (nn x) 0 = (a, upS (upS H 9 (H.2.2.1 0)) 9 r') ∧ Cn w' ∧ Inv r' := fun H hH =>
    ol (x := x) 101 101 (upW g 1 (g.1 0)) (upS H 9 (H.2.2.1 0)) (nn x) 0 (by omega) (by omega) (by omega) (by rw [upS_1, hH]; exact hC.2.1) (by rw [upW_1, upS_1, hH]; exact hR) (by rw [upS_1, hH]; exact hI) (by rw [upS_1, hH]; exact t4)
  obtain ⟨a, w', r', k1, k2, k3, k4⟩ := K g rfl
  rw [k1, upW_upW]
  obtain ⟨a', w'', r'', l1, l2, l3, l4⟩ := K (upW g 1 w') rfl
  have ea' : a = a' := by have := k1.symm.trans l1; exact congrArg Prod.fst this
  unfold sX7_overIn
  show OKs g (a, upW g 1 w') (if sX7_isCart (g.2.2.1 0) x = 0 then _ else if g.2.2.1 0 (104 + 8 * nn x + 2) = -6 then _ else bX7_overIn_43 x 101 (upS (upW g 1 w') 9 ((upW g 1 w').2.2.1 0)) (nn x) 0)
  rw [if_neg t1, if_neg t4, l2, upS_upS]
  exact ⟨rfl, ea', RG_trial h k3 l4⟩
/-- the class's hours of a trial, told by those of passHours -/
theorem wl6 : ∀ (n : Nat) (G : GS) (ov : Int32) (p : Nat), sm x 99 → nn x < p + n → p ≤ nn x → bX6_would_38 x y n G ov p =
    (if y = 0 then (bX5_passHours_33 x n (G.1 1) ov p).1 else if y = 1 then sX5_sumOverCarts (bX5_passHours_33 x n (G.1 1) ov p).2 6 - sX5_sumOverCarts (G.1 0) 6 else if y = 2 then sX5_sumOverCarts (bX5_passHours_33 x n (G.1 1) ov p).2 7 - sX5_sumOverCarts (G.1 0) 7 else sX5_waitingSet (bX5_passHours_33 x n (G.1 1) ov p).2, upW G 1 (bX5_passHours_33 x n (G.1 1) ov p).2) := by
  intro n
  induction n with
  | zero => intro G ov p hx h1 h2; omega
  | succ n ih =>
    intro G ov p hx h1 h2
    rw [bX6_would_38, bX5_passHours_33]
    have h99 := hx.le
    have hc := cnt_le (c := x) (p := p) hx (by omega)
    by_cases c : x ≤ nI p
    · rw [if_pos c, if_pos c, upW_self]
      by_cases y0 : y = 0
      · rw [if_pos y0, if_pos y0]
      rw [if_neg y0, if_neg y0]
      by_cases y1 : y = 1
      · rw [if_pos y1, if_pos y1]
      rw [if_neg y1, if_neg y1]
      by_cases y2 : y = 2
      · rw [if_pos y2, if_pos y2]
      rw [if_neg y2, if_neg y2]
    · rw [if_neg c, if_neg c]
      have := (not_congr hc).mp c
      rw [ih _ _ _ hx (by omega) (by omega), upW_1, upW_upW, upW_ne (show ¬ 0 = 1 by omega)]
theorem would_ok (h : RG g) : OKs g (sX6_would g x y) (sX7_would (sX6_would g x y).2 x y) := by
  have hI := h.2.1.1 0 (by omega)
  have hR := h.2.2.1
  have hr := hI.1
  have hx := in_lt (x := x) (lo := 1) (hi := 99) (a := 1) (b := 99) (by decide) (by decide)
  have hle : ∀ v : Int32, 99 < v ↔ ¬ v ≤ 99 := fun v => by rw [Int32.lt_iff_toInt_lt, Int32.le_iff_toInt_le]; omega
  have hy : sX6_isBelow y 4 = 0 ↔ sX7_in y.toInt64 0 3 = 0 := by
    rw [← Decidable.not_iff_not, isB_iff, in_32]
    rw [show (4 : Int32).toInt = 4 from by decide, show (0 : Int64).toInt = 0 from by decide, show (3 : Int64).toInt = 3 from by decide]
    omega
  unfold sX6_would
  by_cases t1 : sX7_in x.toInt64 1 99 = 0
  · have e : (if x < 1 then ((-2 : Int32), g) else (if 99 < x then ((-2), g) else (if sX6_isBelow y 4 = 0 then ((-2), g) else (bX6_would_38 x y 100 (upW g 1 (g.1 0)) 0 0)))) = (-2, g) := by
      by_cases q : x < 1
      · rw [if_pos q]
      · rw [if_neg q, if_pos ((hle x).mpr ((hx.mp t1).resolve_left q))]
    rw [e]
    unfold sX7_would
    rw [if_pos t1]
    exact ⟨rfl, rfl, h⟩
  rw [if_neg (fun q => t1 (hx.mpr (Or.inl q))), if_neg (fun q => t1 (hx.mpr (Or.inr ((hle x).mp q))))]
  by_cases t2 : sX7_in y.toInt64 0 3 = 0
  · rw [if_pos (hy.mpr t2)]
    unfold sX7_would
    rw [if_neg t1, if_pos t2]
    exact ⟨rfl, rfl, h⟩
  rw [if_neg (fun q => t2 (hy.mp q))]
  have sx := in99_of t1
  have h99 := sx.le
  rw [wl6 100 _ _ _ sx (by omega) (by omega), upW_1, upW_ne (show ¬ 0 = 1 by omega), upW_upW]
  obtain ⟨k1, k2⟩ := hours_rel (x := x) hI hR
  have I2 := Inv_hours (x := x) hI
  unfold sX7_would
  rw [if_neg t1, if_neg t2]
  generalize bX5_passHours_33 x 100 (g.1 0) 0 0 = Z at k1 k2 ⊢
  have e9 : ∀ H : GS, (upS (upW g 1 Z.2) 9 ((upW g 1 Z.2).2.2.1 0)).2.2.1 9 = g.2.2.1 0 := fun _ => upS_1
  have RGn := RG_trial (w' := Z.2) (r' := (sX7_hours (g.2.2.1 0) x).2) h (k2.cn I2.1.1) I2
  have eS : upS (upS (upW g 1 Z.2) 9 ((upW g 1 Z.2).2.2.1 0)) 9 (sX7_hours ((upS (upW g 1 Z.2) 9 ((upW g 1 Z.2).2.2.1 0)).2.2.1 9) x).2 = upS (upW g 1 Z.2) 9 (sX7_hours (g.2.2.1 0) x).2 := by
    rw [e9 g, upS_upS]
  have c9 : (upS (upW g 1 Z.2) 9 (sX7_hours (g.2.2.1 0) x).2).2.2.1 9 = (sX7_hours (g.2.2.1 0) x).2 := upS_1
  have c0 : (upS (upW g 1 Z.2) 9 (sX7_hours (g.2.2.1 0) x).2).2.2.1 0 = g.2.2.1 0 := upS_ne (by omega)
  rw [eS, e9 g, c9, c0]
  by_cases y0 : y = 0
  · rw [if_pos y0, if_pos y0]; exact ⟨rfl, k1, RGn⟩
  rw [if_neg y0, if_neg y0]
  by_cases y1 : y = 1
  · rw [if_pos y1, if_pos y1, sumC6 I2 k2, sumC6 hI hR]; exact ⟨rfl, rfl, RGn⟩
  rw [if_neg y1, if_neg y1]
  by_cases y2 : y = 2
  · rw [if_pos y2, if_pos y2, sumC7 I2 k2, sumC7 hI hR]; exact ⟨rfl, rfl, RGn⟩
  rw [if_neg y2, if_neg y2, ws_rel I2 k2]; exact ⟨rfl, rfl, RGn⟩
end TR
