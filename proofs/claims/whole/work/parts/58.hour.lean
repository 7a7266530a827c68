/-! an hour, side by side -/
theorem upd_comm {w : Row} {a b : Nat} {x y : Int32} (h : ¬ a = b) : upd (upd w a x) b y = upd (upd w b y) a x := by
  funext j
  by_cases e1 : j = a
  · by_cases e2 : j = b
    · exact absurd (e1.symm.trans e2) h
    · rw [updn e2, e1, upde, upde]
  · by_cases e2 : j = b
    · rw [e2, upde, updn (by omega), upde]
    · rw [updn e2, updn e1, updn e1, updn e2]
theorem release_upd {w : Row} {c i j : Nat} {v : Int32} (h10 : ¬ j = 10) (hq : ¬ (12 ≤ j ∧ j < 20)) (h2 : ¬ j = 104 + 8 * c + 2) (h3 : ¬ j = 104 + 8 * c + 3) (h4 : ¬ j = 104 + 8 * c + 4) (hw : ¬ j = 360 + i) (hcn : Cn w) : sX5_release (upd w j v) c i = upd (sX5_release w c i) j v := by
  have key : ∀ (n : Nat) (w : Row) (z p : Nat), Cn w → p ≤ 8 → z ≤ p → bX5_release_5 c i n (upd w j v) z p = upd (bX5_release_5 c i n w z p) j v := by
    intro n
    induction n with
    | zero => intro w z p _ _ _; rfl
    | succ n ih =>
      intro w z p hcn hp hz
      rw [bX5_release_5, bX5_release_5]
      have e10 : upd w j v 10 = w 10 := updn (fun q => h10 q.symm)
      rw [e10]
      by_cases c1 : w 10 ≤ nI p
      · rw [if_pos c1, if_pos c1, upd_comm h10, upd_comm h2, upd_comm h3, upd_comm h4, updn (fun q => hw q.symm), upd_comm hw]
      · rw [if_neg c1, if_neg c1]
        have hp2 := hcn.lt10 (by omega) c1
        have ep : upd w j v (12 + p) = w (12 + p) := updn (by omega)
        rw [ep]
        by_cases c2 : w (12 + p) = nI c
        · rw [if_pos c2, if_pos c2]; exact ih _ _ _ hcn (by omega) (by omega)
        · rw [if_neg c2, if_neg c2, upd_comm (show ¬ j = 12 + z by omega)]
          exact ih _ _ _ (Cn_upd (by omega) (by omega) (by omega) hcn) (by omega) (by omega)
  unfold sX5_release
  exact key _ _ _ _ hcn (by omega) (by omega)
theorem Rel_updE {w r : Row} {j : Nat} {v v' : Int32} (hv : v = v') (h6 : ¬ j = 6) (h10 : ¬ j = 10) (hq : ¬ (12 ≤ j ∧ j < 20)) (ha : ∀ c, c < 8 → ¬ j = 104 + 8 * c + 2 ∧ ¬ j = 104 + 8 * c + 3) (hj : j < 360) (hr : Cn r) (h : Rel w r) : Rel (upd w j v) (upd r j v') := by
  subst hv; exact Rel_upd h6 h10 hq ha hj hr h
theorem pay_eq {w : Row} {c i : Nat} {x : Int32} : sX1_pay w c x i = sX7_pays w c i x := rfl
theorem gift_eq {w : Row} {c i : Nat} {x : Int32} : sX1_takeGift w c x i = gives w c i (if (w (20 + 7 * i + 4)) < x then (w (20 + 7 * i + 4)) else x) := rfl
theorem pays0 {w : Row} {c i : Nat} : sX7_pays w c i 0 = w := by
  unfold sX7_pays
  have a : ∀ v : Int32, v - 0 = v := fun v => Int32.sub_zero v
  have b : ∀ v : Int32, v + 0 = v := fun v => Int32.add_zero v
  rw [a, b, b, upd_id (w := w) (j := 104 + 8 * c + 1) rfl, upd_id (w := w) (j := 104 + 8 * c + 6) rfl, upd_id rfl]
theorem Rel_pays {w r : Row} {c i : Nat} {x : Int32} (hc : c < 8) (hi : i < 12) (hr : Cn r) (h : Rel w r) : Rel (sX7_pays w c i x) (sX7_pays r c i x) := by
  unfold sX7_pays
  have h1 : Rel (upd w (104 + 8 * c + 1) ((w (104 + 8 * c + 1)) - x)) (upd r (104 + 8 * c + 1) ((r (104 + 8 * c + 1)) - x)) := Rel_updE (by rw [h.c (c := c) (f := 1) hc (by omega) (by omega)]) (by omega) (by omega) (by omega) (fun c hc => by omega) (by omega) hr h
  have r1 : Cn (upd r (104 + 8 * c + 1) ((r (104 + 8 * c + 1)) - x)) := Cn_upd (by omega) (by omega) (by omega) hr
  have h2 := Rel_updE (j := 104 + 8 * c + 6) (v := (upd w (104 + 8 * c + 1) ((w (104 + 8 * c + 1)) - x)) (104 + 8 * c + 6) + x) (v' := (upd r (104 + 8 * c + 1) ((r (104 + 8 * c + 1)) - x)) (104 + 8 * c + 6) + x) (by rw [h1.c (c := c) (f := 6) hc (by omega) (by omega)]) (by omega) (by omega) (by omega) (fun c hc => by omega) (by omega) r1 h1
  exact Rel_updE (by rw [h2.b (j := 20 + 7 * i + 4) (by omega) (by omega)]) (by omega) (by omega) (by omega) (fun c hc => by omega) (by omega) (Cn_upd (by omega) (by omega) (by omega) r1) h2
theorem Rel_gives {w r : Row} {c i : Nat} {x : Int32} (hc : c < 8) (hi : i < 12) (hr : Cn r) (h : Rel w r) : Rel (gives w c i x) (gives r c i x) := by
  unfold gives
  have h1 : Rel (upd w (20 + 7 * i + 4) ((w (20 + 7 * i + 4)) - x)) (upd r (20 + 7 * i + 4) ((r (20 + 7 * i + 4)) - x)) := Rel_updE (by rw [h.b (j := 20 + 7 * i + 4) (by omega) (by omega)]) (by omega) (by omega) (by omega) (fun c hc => by omega) (by omega) hr h
  have r1 : Cn (upd r (20 + 7 * i + 4) ((r (20 + 7 * i + 4)) - x)) := Cn_upd (by omega) (by omega) (by omega) hr
  have h2 := Rel_updE (j := 104 + 8 * c + 1) (v := (upd w (20 + 7 * i + 4) ((w (20 + 7 * i + 4)) - x)) (104 + 8 * c + 1) + x) (v' := (upd r (20 + 7 * i + 4) ((r (20 + 7 * i + 4)) - x)) (104 + 8 * c + 1) + x) (by rw [h1.c (c := c) (f := 1) hc (by omega) (by omega)]) (by omega) (by omega) (by omega) (fun c hc => by omega) (by omega) r1 h1
  exact Rel_updE (by rw [h2.c (c := c) (f := 7) hc (by omega) (by omega)]) (by omega) (by omega) (by omega) (fun c hc => by omega) (by omega) (Cn_upd (by omega) (by omega) (by omega) r1) h2
theorem L246 {w r : Row} {c i : Nat} (hc : c ∈ qs r) (ha : r (104 + 8 * c + 2) = nI i) (hi : i < nn (r 5)) (hI : Inv r) (h : Rel w r) : (bX5_letOver_84 i w c).1 = (bX7_opens_246 i r c).1 ∧ Rel (bX5_letOver_84 i w c).2 (bX7_opens_246 i r c).2 := by
  have hr := hI.1
  have h6 := hr.1.2.2.le
  have h5 := hr.1.2.1.le
  have hc6 := (hI.2.1.2.1 c hc).1
  have hc8 : c < 8 := by omega
  have hi12 : i < 12 := by omega
  have cW := h.cn hr.1
  obtain ⟨a1, a2, a3⟩ := re_all (i := i) hc8 hi12 cW h.2.2.1
  have eT : ∀ j, (20 ≤ j ∧ j < 104) ∨ j = 104 + 8 * c ∨ j = 104 + 8 * c + 5 → sX5_release w c i j = w j := fun j hj => by rw [a3 j (by omega) (by omega), updn (by omega), updn (by omega), updn (by omega), updn (by omega)]
  -- the class's row ahead of the release, in the end
  have T : sX0_farFrom (sX5_release w c i) i ((sX5_release w c i) (104 + 8 * c)) = if r (20 + 7 * i) = r (104 + 8 * c) then r (20 + 7 * i + 1) else r (20 + 7 * i) := by
    unfold sX0_farFrom
    rw [eT _ (by omega), eT _ (by omega), eT _ (by omega), h.b (j := 20 + 7 * i) (by omega) (by omega), h.b (j := 20 + 7 * i + 1) (by omega) (by omega), h.c0 hc8]
  have tw := hr.2.2.1 i hi12
  generalize hTv : (if r (20 + 7 * i) = r (104 + 8 * c) then r (20 + 7 * i + 1) else r (20 + 7 * i)) = t at T
  have ht : sm t 7 := by rw [← hTv]; split; exact tw.2.1; exact tw.1
  have E5 : bX5_letOver_84 i w c = (1, sX5_drawRiddle (sX5_release (upd (upd (upd w (104 + 8 * c) t) (104 + 8 * c + 5) (w (104 + 8 * c + 5) + 1)) (20 + 7 * i + 5) (w (20 + 7 * i + 5) + 1)) c i) i) := by
    unfold bX5_letOver_84 bX5_letOver_102
    have c1 : Cn (upd w (104 + 8 * c) t) := Cn_upd (by omega) (by omega) (by omega) cW
    have c2 : Cn (upd (upd w (104 + 8 * c) t) (104 + 8 * c + 5) (w (104 + 8 * c + 5) + 1)) := Cn_upd (by omega) (by omega) (by omega) c1
    rw [T, release_upd (by omega) (by omega) (by omega) (by omega) (by omega) (by omega) c2, release_upd (by omega) (by omega) (by omega) (by omega) (by omega) (by omega) c1, release_upd (by omega) (by omega) (by omega) (by omega) (by omega) (by omega) cW,
      updn (show ¬ 104 + 8 * c + 5 = 104 + 8 * c by omega), updn (show ¬ 20 + 7 * i + 5 = 104 + 8 * c + 5 by omega), updn (show ¬ 20 + 7 * i + 5 = 104 + 8 * c by omega), eT _ (by omega), eT _ (by omega)]
  have E7 : bX7_opens_246 i r c = (1, sX7_draws (sX7_stopsWaiting (upd (upd (upd r (104 + 8 * c) t) (104 + 8 * c + 5) (r (104 + 8 * c + 5) + 1)) (20 + 7 * i + 5) (r (20 + 7 * i + 5) + 1)) c) i) := by
    have A : bX7_opens_246 i r c = bX7_opens_286 i (upd r (104 + 8 * c) t) c := by
      unfold bX7_opens_246
      rw [← hTv]
      split <;> rfl
    rw [A]
    unfold bX7_opens_286
    rw [updn (show ¬ 104 + 8 * c + 5 = 104 + 8 * c by omega), updn (show ¬ 20 + 7 * i + 5 = 104 + 8 * c + 5 by omega), updn (show ¬ 20 + 7 * i + 5 = 104 + 8 * c by omega)]
  rw [E5, E7]
  refine ⟨rfl, ?_⟩
  show Rel (sX5_drawRiddle _ i) (sX7_draws _ i)
  have e5 : w (104 + 8 * c + 5) = r (104 + 8 * c + 5) := h.c (f := 5) hc8 (by omega) (by omega)
  have e6 : w (20 + 7 * i + 5) = r (20 + 7 * i + 5) := h.b (by omega) (by omega)
  rw [e5, e6]
  have h1 : Rel (upd w (104 + 8 * c) t) (upd r (104 + 8 * c) t) := Rel_upd (by omega) (by omega) (by omega) (fun c hc => by omega) (by omega) hr.1 h
  have I1 : Inv (upd r (104 + 8 * c) t) := Inv_town hc6 ht hI
  have h2 := Rel_upd (j := 104 + 8 * c + 5) (v := r (104 + 8 * c + 5) + 1) (by omega) (by omega) (by omega) (fun c hc => by omega) (by omega) I1.1.1 h1
  have c2' : Cn (upd (upd r (104 + 8 * c) t) (104 + 8 * c + 5) (r (104 + 8 * c + 5) + 1)) := Cn_upd (by omega) (by omega) (by omega) I1.1.1
  have h3 := Rel_upd (j := 20 + 7 * i + 5) (v := r (20 + 7 * i + 5) + 1) (by omega) (by omega) (by omega) (fun c hc => by omega) (by omega) c2' h2
  have I3 : Inv (upd (upd (upd r (104 + 8 * c) t) (104 + 8 * c + 5) (r (104 + 8 * c + 5) + 1)) (20 + 7 * i + 5) (r (20 + 7 * i + 5) + 1)) := by
    have := Inv_cross (c := c) (i := i) (by rw [u6 (by omega)]; exact hc6) (by rw [u5 (by omega)]; exact hi) I1
    rw [updn (show ¬ 104 + 8 * c + 5 = 104 + 8 * c by omega), updn (show ¬ 20 + 7 * i + 5 = 104 + 8 * c by omega)] at this
    exact this
  have q3 : qs (upd (upd (upd r (104 + 8 * c) t) (104 + 8 * c + 5) (r (104 + 8 * c + 5) + 1)) (20 + 7 * i + 5) (r (20 + 7 * i + 5) + 1)) = qs r := by
    rw [qs_upd (by omega) (by omega) c2', qs_upd (by omega) (by omega) I1.1.1, qs_upd (by omega) (by omega) hr.1]
  have ha3 : upd (upd (upd r (104 + 8 * c) t) (104 + 8 * c + 5) (r (104 + 8 * c + 5) + 1)) (20 + 7 * i + 5) (r (20 + 7 * i + 5) + 1) (104 + 8 * c + 2) = nI i := by
    rw [updn (by omega), updn (by omega), updn (by omega)]; exact ha
  have n5 : upd (upd (upd r (104 + 8 * c) t) (104 + 8 * c + 5) (r (104 + 8 * c + 5) + 1)) (20 + 7 * i + 5) (r (20 + 7 * i + 5) + 1) 5 = r 5 := by rw [u5 (by omega), u5 (by omega), u5 (by omega)]
  have n6 : upd (upd (upd r (104 + 8 * c) t) (104 + 8 * c + 5) (r (104 + 8 * c + 5) + 1)) (20 + 7 * i + 5) (r (20 + 7 * i + 5) + 1) 6 = r 6 := by rw [u6 (by omega), u6 (by omega), u6 (by omega)]
  generalize upd (upd (upd r (104 + 8 * c) t) (104 + 8 * c + 5) (r (104 + 8 * c + 5) + 1)) (20 + 7 * i + 5) (r (20 + 7 * i + 5) + 1) = R at *
  generalize upd (upd (upd w (104 + 8 * c) t) (104 + 8 * c + 5) (r (104 + 8 * c + 5) + 1)) (20 + 7 * i + 5) (r (20 + 7 * i + 5) + 1) = W at *
  have h4 := Rel_release (by rw [q3]; exact hc) ha3 hi12 I3 h3
  have I4 : Inv (sX7_stopsWaiting R c) := Inv_stops (by rw [n6]; exact hc6) I3
  have s5 := (st5 hc8 I3.1).1
  have sz := I4.1.2.2.2 i hi12 (by rw [s5, n5]; exact hi)
  rw [dr7 hi12, dr5 hi12 (fun q => by
    rw [h4.b (j := 20 + 7 * i + 2) (by omega) (by omega), Int32.le_iff_toInt_le, show (0 : Int32).toInt = 0 from by decide] at q
    omega)]
  exact Rel_drw hi12 I4.1.1 h4
