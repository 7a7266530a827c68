/-! the law's waits -/
theorem w142 {G G' : GS} {W : Row} {R : Int32 × GS} {v1 v4 v5 v7 v8 v9 v12 P Q : Int32} {v10 : Int64} (hcn : Cn W) (e : G.1 0 = W) (hP : P - sumI (fun k => W (104 + 8 * k + 6)) (nn (W 6)) = -v7) (hQ : Q - sumI (fun k => W (104 + 8 * k + 7)) (nn (W 6)) = -v8) (h3 : sX6_count G 3 = v9) (hH : sL_hangs G = (1, G'))
    (fin : (if v4 = W 6 then (if v5 = (-1) then (bL_waits_302 G' v10) else (bL_waits_306 G' v10)) else (if v5 = (-5) then (if sX6_ofCart G' v4 5 = v12 then (bL_waits_302 G' v10) else (bL_waits_306 G' v10)) else (if v5 = (-6) then (bL_waits_279 G' v4 v10 v12) else (if v1 < v5 then (bL_waits_279 G' v4 v10 v12) else (if sX6_ofCart G' v4 5 = v12 + 1 then (bL_waits_302 G' v10) else (bL_waits_306 G' v10)))))) = R) : ∀ (n p : Nat), p ≤ nn (W 6) → nn (W 6) - p < n →
    bL_waits_142 n G v1 (W 6) v4 v5 v7 v8 v9 v10 v12 (P - sumI (fun k => W (104 + 8 * k + 6)) p) (Q - sumI (fun k => W (104 + 8 * k + 7)) p) p = R := by
  have h8 := hcn.2.2.le
  intro n
  induction n with
  | zero => intro p _ q; omega
  | succ n ih =>
    intro p hp hn
    rw [bL_waits_142]
    have hcl := cnt_le (c := W 6) (p := p) hcn.2.2 (by omega)
    by_cases d : W 6 ≤ nI p
    · rw [if_pos d, show p = nn (W 6) by have := hcl.mp d; omega, if_pos hP, if_pos hQ, if_pos h3, hH, if_neg (show ¬ (1 : Int32) = 0 by decide)]
      exact fin
    · rw [if_neg d]
      have hp2 : p < nn (W 6) := by
        rcases Nat.lt_or_ge p (nn (W 6)) with q | q
        · exact q
        · exact absurd (hcl.mpr q) d
      rw [ofC_6 (by rw [e]; exact hcn) (by rw [e]; exact hp2), ofC_7 (by rw [e]; exact hcn) (by rw [e]; exact hp2), e, sub_sum, sub_sum]
      exact ih (p + 1) (by omega) (by omega)
theorem waits_ok {g : GS} {h : Nat} {x : Int32} (h1 : 1 ≤ h) (h2 : h ≤ 12) (hw : WI (g.1 0)) (hh : (g.1 0 4).toInt ≤ 9000) (hg : Gn g) (hu : sm (g.2.1 1) 6) :
    ∃ g' : GS, sL_waits g (nI h) x = (1, g') ∧ g'.1 0 = g.1 0 ∧ sm (g'.2.1 1) 6 := by
  have n6 := hw.a.n6
  have h0 := hw.s.2.2.2.2.2
  obtain ⟨a, b, c6, d4⟩ := it_ok h (g.1 0) hw (by omega)
  obtain ⟨e6, m6⟩ := nn_inc hw.cn.2.2 (by omega)
  -- the cart
  obtain ⟨c, hc, ec⟩ := low_eq (a := x) (b := sX6_count g 2 + 1) (m := 9) (by rw [ct_2, e6]; exact sm_nI (by omega) (by omega)) (by rw [ct_2, e6, nI_toInt (by omega)]; omega) (by omega)
  rw [ct_2, m6] at hc
  unfold sL_waits
  rw [ec]
  -- what is looked at ahead
  obtain ⟨g1, e1⟩ : ∃ g1, g1 = (sX6_overIn g (nI c)).2 := ⟨_, rfl⟩
  have s1 : Sim g g1 := by rw [e1]; exact Sim_over
  rw [← e1]
  have W0 := would_eq (g := g1) (h := h) (y := 0) h1 (by omega) (by decide)
  obtain ⟨g2, e2⟩ : ∃ g2, g2 = upW g1 1 (itR h (g1.1 0)) := ⟨_, rfl⟩
  have s2 : Sim g g2 := by rw [e2]; exact s1.tr Sim_up
  rw [← e2] at W0
  rw [W0]
  have W1 := would_eq (g := g2) (h := h) (y := 1) h1 (by omega) (by decide)
  obtain ⟨g3, e3⟩ : ∃ g3, g3 = upW g2 1 (itR h (g2.1 0)) := ⟨_, rfl⟩
  have s3 : Sim g g3 := by rw [e3]; exact s2.tr Sim_up
  rw [← e3] at W1
  dsimp only
  rw [W1]
  have W2 := would_eq (g := g3) (h := h) (y := 2) h1 (by omega) (by decide)
  obtain ⟨g4, e4⟩ : ∃ g4, g4 = upW g3 1 (itR h (g3.1 0)) := ⟨_, rfl⟩
  have s4 : Sim g g4 := by rw [e4]; exact s3.tr Sim_up
  rw [← e4] at W2
  dsimp only
  rw [W2]
  have W3 := would_eq (g := g4) (h := h) (y := 3) h1 (by omega) (by decide)
  obtain ⟨g5, e5⟩ : ∃ g5, g5 = upW g4 1 (itR h (g4.1 0)) := ⟨_, rfl⟩
  have s5 : Sim g g5 := by rw [e5]; exact s4.tr Sim_up
  rw [← e5] at W3
  dsimp only
  rw [W3]
  dsimp only
  rw [s1.w, s2.w, s3.w, s4.w, ct_2]
  have wv0 : wval (itR h (g.1 0)) (g.1 0) (itS h (g.1 0)) 0 = itS h (g.1 0) := if_pos rfl
  have wv1 : wval (itR h (g.1 0)) (g.1 0) (itS h (g.1 0)) 1 = sX5_sumOverCarts (itR h (g.1 0)) 6 - sX5_sumOverCarts (g.1 0) 6 := by
    unfold wval; rw [if_neg (by decide), if_pos rfl]
  have wv2 : wval (itR h (g.1 0)) (g.1 0) (itS h (g.1 0)) 2 = sX5_sumOverCarts (itR h (g.1 0)) 7 - sX5_sumOverCarts (g.1 0) 7 := by
    unfold wval; rw [if_neg (by decide), if_neg (by decide), if_pos rfl]
  have wv3 : wval (itR h (g.1 0)) (g.1 0) (itS h (g.1 0)) 3 = sX5_waitingSet (itR h (g.1 0)) := by
    unfold wval; rw [if_neg (by decide), if_neg (by decide), if_neg (by decide)]
  rw [wv0, wv1, wv2, wv3]
  -- the hours
  have hk := it_cnt h (g.1 0) (by omega) hw (by omega)
  have pe : sX6_pass g5 (nI h) = chg g5 (itS h (g.1 0), itR h (g.1 0)) := by
    rw [pass_chg, s5.w, pass_eq h1 (by omega) h0 (by omega)]
  have hg5 : Gn g5 := by
    rw [e5, e4, e3, e2, e1]
    have G1 := Gn_sX6_overIn (x := nI c) hg
    have K : ∀ G : GS, Gn G → Sim g G → Gn (upW G 1 (itR h (G.1 0))) := fun G hG hS => Gn_upW hG (by rw [hS.w]; exact a.cn)
    have k1 := K _ G1 Sim_over
    have t1 : Sim g (upW (sX6_overIn g (nI c)).2 1 (itR h ((sX6_overIn g (nI c)).2.1 0))) := Sim_over.tr Sim_up
    have k2 := K _ k1 t1
    have t2 := t1.tr (Sim_up (v := itR h ((upW (sX6_overIn g (nI c)).2 1 (itR h ((sX6_overIn g (nI c)).2.1 0))).1 0)))
    have k3 := K _ k2 t2
    exact K _ k3 (t2.tr Sim_up)
  have u5 : g5.2.1 = g.2.1 := by rw [s5.2]
  have hu5 : sm (g5.2.1 1) 6 := by rw [u5]; exact hu
  obtain ⟨G, hG⟩ : ∃ G, G = (sX6_pass g5 (nI h)).2 := ⟨_, rfl⟩
  have p1 : (sX6_pass g5 (nI h)).1 = itS h (g.1 0) := by rw [pe, chg_1]
  have af : Aft g5 G (itR h (g.1 0)) := by rw [hG, pe]; exact chg_yes hg5 hu5 hk.1
  have G0 : G.1 0 = itR h (g.1 0) := af.1
  -- hangs
  obtain ⟨G', sH, eH⟩ := hangs_ok (g := G) (by rw [G0]; exact ⟨by omega, by omega⟩) (by rw [G0]; exact a)
  have G'0 : G'.1 0 = itR h (g.1 0) := sH.w.trans G0
  have ud := undo_aft hg5 hu5 (af.sim sH)
  have hul := hu5.le
  have un : ¬ (sX6_undo G').1 < 0 := by rw [ud.1]; exact nI_pos (by omega)
  have up : sL_print (sX6_undo G').2 = sL_print g5 := print_same ud.2.1
  have F := w309 (G := G') (v := sL_print g5) un up
  have hcn' : Cn (itR h (g.1 0)) := a.cn
  have sum6 : ∀ w : Row, Cn w → sX5_sumOverCarts w 6 = sumI (fun k => w (104 + 8 * k + 6)) (nn (w 6)) := fun w hc => by
    rw [sumC_eq hc]; exact sumI_congr _ (fun k _ => part1.2.2.2.2.2.2.1)
  have sum7 : ∀ w : Row, Cn w → sX5_sumOverCarts w 7 = sumI (fun k => w (104 + 8 * k + 7)) (nn (w 6)) := fun w hc => by
    rw [sumC_eq hc]; exact sumI_congr _ (fun k _ => part1.2.2.2.2.2.2.2)
  -- what is told behind the hours
  have main : ∀ v12 : Int32, (c < nn (g.1 0 6) → v12 = g.1 0 (104 + 8 * c + 5)) → bL_waits_80 g5 (nI h) (g.1 0 6) (nI c) ((sX6_overIn g (nI c)).1) (itS h (g.1 0)) (sX5_sumOverCarts (itR h (g.1 0)) 6 - sX5_sumOverCarts (g.1 0) 6) (sX5_sumOverCarts (itR h (g.1 0)) 7 - sX5_sumOverCarts (g.1 0) 7) (sX5_waitingSet (itR h (g.1 0))) (sL_print g5) v12 = (1, (sX6_undo G').2) := fun v12 hv => by
    have l1 := w89 (gg := g5) (w := g.1 0) (v1 := nI h) (v4 := nI c) (v5 := (sX6_overIn g (nI c)).1) (v6 := itS h (g.1 0)) (v7 := sX5_sumOverCarts (itR h (g.1 0)) 6 - sX5_sumOverCarts (g.1 0) 6) (v8 := sX5_sumOverCarts (itR h (g.1 0)) 7 - sX5_sumOverCarts (g.1 0) 7) (v9 := sX5_waitingSet (itR h (g.1 0))) (v12 := v12) (v10 := sL_print g5) hw.cn s5.w (nn (g.1 0 6) + 1) 0 (by omega) (by omega)
    unfold bL_waits_80
    refine l1.trans ?_
    rw [if_pos p1, ← hG]
    have l2 := w142 (G := G) (G' := G') (W := itR h (g.1 0)) (R := (1, (sX6_undo G').2)) (v1 := nI h) (v4 := nI c) (v5 := (sX6_overIn g (nI c)).1) (v7 := sX5_sumOverCarts (itR h (g.1 0)) 6 - sX5_sumOverCarts (g.1 0) 6) (v8 := sX5_sumOverCarts (itR h (g.1 0)) 7 - sX5_sumOverCarts (g.1 0) 7) (v9 := sX5_waitingSet (itR h (g.1 0))) (v12 := v12) (P := sumI (fun k => g.1 0 (104 + 8 * k + 6)) (nn (g.1 0 6))) (Q := sumI (fun k => g.1 0 (104 + 8 * k + 7)) (nn (g.1 0 6))) (v10 := sL_print g5) hcn' G0
      (by rw [sum6 _ hcn', sum6 _ hw.cn, Int32.neg_sub]) (by rw [sum7 _ hcn', sum7 _ hw.cn, Int32.neg_sub]) (by rw [ct_3, G0]) eH ?_ (nn (g.1 0 6) + 1) 0 (by omega) (by rw [c6]; omega)
    · rw [c6] at l2
      have z6 : sumI (fun k => g.1 0 (104 + 8 * k + 6)) (nn (g.1 0 6)) - sumI (fun k => itR h (g.1 0) (104 + 8 * k + 6)) 0 = sumI (fun k => g.1 0 (104 + 8 * k + 6)) (nn (g.1 0 6)) := Int32.sub_zero _
      have z7 : sumI (fun k => g.1 0 (104 + 8 * k + 7)) (nn (g.1 0 6)) - sumI (fun k => itR h (g.1 0) (104 + 8 * k + 7)) 0 = sumI (fun k => g.1 0 (104 + 8 * k + 7)) (nn (g.1 0 6)) := Int32.sub_zero _
      rw [z6, z7] at l2
      exact l2
    · rw [c6]
      by_cases q : c < nn (g.1 0 6)
      · have hc8 : c < 8 := by omega
        have hv' := hv q
        have o5 : sX6_ofCart G' (nI c) 5 = itR h (g.1 0) (104 + 8 * c + 5) := by
          rw [ofC_5 (by rw [G'0]; exact hcn') (by rw [G'0, c6]; exact q), G'0]
        have iw := it_wait hc8 h (g.1 0) hw (by omega)
        rw [if_neg (show ¬ nI c = g.1 0 6 from fun z => by
          rw [hw.cn.2.2.eq, nI_eq (by omega) (by omega)] at z
          omega)]
        -- it comes over in these hours, or not
        have no : itR h (g.1 0) (104 + 8 * c + 5) = g.1 0 (104 + 8 * c + 5) → bL_waits_279 G' (nI c) (sL_print g5) v12 = (1, (sX6_undo G').2) := fun z => by
          unfold bL_waits_279
          rw [o5, z, hv', if_neg (fun y => ne_inc y)]
          exact F
        by_cases nw : g.1 0 (104 + 8 * c + 2) = -6
        · rw [if_pos (overIn_no hw.cn q nw)]
          have z : itR h (g.1 0) (104 + 8 * c + 5) = g.1 0 (104 + 8 * c + 5) := by
            rcases iw with ⟨-, z⟩ | ⟨z, -⟩
            · exact z
            · exact absurd nw z
          rw [o5, z, hv', if_pos rfl]
          exact F
        · rcases overIn_eq hw.cn q nw with ⟨m, ⟨m1, m2⟩, eo, eo1, eo2⟩ | ⟨eo, eo2⟩
          · have n5 : ¬ (sX6_overIn g (nI c)).1 = -5 := by
              rw [eo]
              intro z
              have := congrArg Int32.toInt z
              rw [nI_toInt (by omega), show (-5 : Int32).toInt = -5 from by decide] at this
              omega
            have n6' : ¬ (sX6_overIn g (nI c)).1 = -6 := by rw [eo]; exact nn_neg6 (by omega)
            rw [if_neg n5, if_neg n6', eo]
            by_cases z : h < m
            · rw [if_pos (nI_lt z (by omega))]
              refine no ?_
              rcases iw with ⟨-, y⟩ | ⟨-, y, -⟩
              · exact y
              · exact absurd y (eo2 h z)
            · rw [if_neg (fun y => by
                rw [Int32.lt_iff_toInt_lt, nI_toInt (by omega), nI_toInt (by omega)] at y
                omega)]
              obtain ⟨j, hj⟩ : ∃ j, h = m + j := ⟨h - m, by omega⟩
              have hs : itR h (g.1 0) (104 + 8 * c + 2) = -6 := by
                rw [hj]
                exact it_stay hc8 hw (by omega) eo1
              rcases iw with ⟨y, -⟩ | ⟨-, -, y⟩
              · rw [hs] at y
                exact absurd y.symm nw
              · rw [o5, y, hv', if_pos rfl]
                exact F
          · rw [eo, if_neg (by decide), if_pos rfl]
            refine no ?_
            rcases iw with ⟨-, y⟩ | ⟨-, y, -⟩
            · exact y
            · exact absurd y (eo2 h (by omega))
      · have ecn : c = nn (g.1 0 6) := by omega
        rw [if_pos (show nI c = g.1 0 6 from by rw [ecn]; exact hw.cn.2.2.eq.symm), if_pos (overIn_out hw.cn (by omega) (by omega))]
        exact F
  refine ⟨(sX6_undo G').2, ?_, ud.2.1.trans s5.w, by rw [ud.2.2.2]; exact sm_nI (by omega) (by omega)⟩
  unfold bL_waits_61
  by_cases q : g.1 0 6 ≤ nI c
  · rw [if_pos q]
    refine main 0 (fun z => ?_)
    have := (cnt_le (c := g.1 0 6) (p := c) hw.cn.2.2 (by omega)).mp q
    omega
  · rw [if_neg q]
    refine main _ (fun z => ?_)
    rw [ofC_5 (by rw [s5.w]; exact hw.cn) (by rw [s5.w]; exact z), s5.w]
