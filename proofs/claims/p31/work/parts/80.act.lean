/-! the law's act; its waits -/
def aW (w : Row) (x y : Int32) : Int32 × Row := if sL_low x 14 = 0 then (if sL_low (x >>> (9 &&& 31)) 3 = 0 then sX5_addBridge w (sL_low y 4) (sL_low (y >>> (2 &&& 31)) 4) ((2 : Int32) + (sL_low (y >>> (4 &&& 31)) 999)) else sX5_addBridge w (sL_low y 4) (sL_low (y >>> (2 &&& 31)) 4) ((2 : Int32) + (sL_low (y >>> (4 &&& 31)) 12)))
  else if sL_low x 14 = 1 then (if sL_low (x >>> (9 &&& 31)) 3 = 0 then sX5_addCart w (sL_low y 3) (sL_low (y >>> (2 &&& 31)) 10000) else sX5_addCart w (sL_low y 3) (sL_low (y >>> (2 &&& 31)) 9))
  else if sL_low x 14 = 2 then (if sL_low (x >>> (4 &&& 31)) 4 = 3 then sX5_changeSetting w (sL_low (x >>> (4 &&& 31)) 4) ((1 : Int32) + (sL_low y 8)) else sX5_changeSetting w (sL_low (x >>> (4 &&& 31)) 4) (sL_low y 7))
  else if sL_low x 14 = 3 then sX5_stopWaiting w (sL_low (x >>> (4 &&& 31)) 4)
  else if sL_low x 14 = 4 then sX5_buyHint w (sL_low (x >>> (4 &&& 31)) 4) (sL_low (x >>> (7 &&& 31)) 3)
  else if sL_low x 14 = 5 then sX5_buyHint w (sL_low (x >>> (4 &&& 31)) 4) (sL_low (x >>> (7 &&& 31)) 3)
  else if sL_low x 14 = 6 then sX5_passHours w ((1 : Int32) + (sL_low y 5))
  else if sL_low x 14 = 7 then sX5_passHours w ((1 : Int32) + (sL_low y 5))
  else sX5_comeToWait w (sL_low (x >>> (4 &&& 31)) 4) (sL_low (x >>> (7 &&& 31)) 3) (sL_low y 10)
theorem act_chg {g : GS} {x y : Int32} : sL_act g x y = chg g (aW (g.1 0) x y) := by
  unfold sL_act aW bL_act_196 bL_act_204
  rw [set_chg, set_chg, bridge_chg, bridge_chg, cart_chg, cart_chg, guess_chg, leave_chg, hint_chg, pass_chg]
  by_cases c0 : sL_low x 14 = 0
  · rw [if_pos c0, if_pos c0]
    by_cases d : sL_low (x >>> (9 &&& 31)) 3 = 0
    · rw [if_pos d, if_pos d]
    · rw [if_neg d, if_neg d]
  rw [if_neg c0, if_neg c0]
  by_cases c1 : sL_low x 14 = 1
  · rw [if_pos c1, if_pos c1]
    by_cases d : sL_low (x >>> (9 &&& 31)) 3 = 0
    · rw [if_pos d, if_pos d]
    · rw [if_neg d, if_neg d]
  rw [if_neg c1, if_neg c1]
  by_cases c2 : sL_low x 14 = 2
  · rw [if_pos c2, if_pos c2]
    by_cases d : sL_low (x >>> (4 &&& 31)) 4 = 3
    · rw [if_pos d, if_pos d]
    · rw [if_neg d, if_neg d]
  rw [if_neg c2, if_neg c2]
  by_cases c3 : sL_low x 14 = 3
  · rw [if_pos c3, if_pos c3]
  rw [if_neg c3, if_neg c3]
  by_cases c4 : sL_low x 14 = 4
  · rw [if_pos c4, if_pos c4]
  rw [if_neg c4, if_neg c4]
  by_cases c5 : sL_low x 14 = 5
  · rw [if_pos c5, if_pos c5]
  rw [if_neg c5, if_neg c5]
  by_cases c6 : sL_low x 14 = 6
  · rw [if_pos c6, if_pos c6]
  rw [if_neg c6, if_neg c6]
  by_cases c7 : sL_low x 14 = 7
  · rw [if_pos c7, if_pos c7]
  rw [if_neg c7, if_neg c7]
/-- what a change of the law's brings -/
def ARes (w : Row) (r : Int32 × Row) : Prop := (r.1 < 0 ∧ r.2 = w) ∨ (0 ≤ r.1.toInt ∧ WI r.2 ∧ (r.2 4).toInt ≤ (w 4).toInt + 5)
theorem ARes_i {w : Row} {q : Prop} {d : Decidable q} {a b : Int32 × Row} (h1 : ARes w a) (h2 : ARes w b) : ARes w (@ite _ q d a b) := by cases d <;> assumption
theorem Res.a {w : Row} {r : Int32 × Row} (h : Res w r) : ARes w r := by
  rcases h with h | ⟨a, b, c⟩
  · exact Or.inl h
  · exact Or.inr ⟨a, b, by rw [c]; omega⟩
theorem pass_res {w : Row} {y : Int32} (h : WI w) (hh : (w 4).toInt ≤ 9000) : ARes w (sX5_passHours w ((1 : Int32) + (sL_low y 5))) := by
  obtain ⟨r, hr, e⟩ := low_lit (a := y) (m := 5) (by omega) (by omega)
  have e1 : (1 : Int32) + sL_low y 5 = nI (r + 1) := by
    rw [show sL_low y 5 = nI r from e, Int32.add_comm]; exact nI_1 r
  have h0 := h.s.2.2.2.2.2
  rw [e1, pass_eq (by omega) (by omega) h0 (by omega)]
  obtain ⟨a, b, c, d⟩ := it_ok (r + 1) w h (by omega)
  have k := it_cnt (r + 1) w (by omega) h (by omega)
  exact Or.inr ⟨k.1, a, by show (itR (r + 1) w 4).toInt ≤ _; omega⟩
theorem act_res {w : Row} {x y : Int32} (h : WI w) (hh : (w 4).toInt ≤ 9000) : ARes w (aW w x y) := by
  unfold aW
  exact ARes_i (ARes_i (bridge_res h).a (bridge_res h).a) (ARes_i (ARes_i (cart_res h).a (cart_res h).a) (ARes_i (ARes_i (set_res h).a (set_res h).a) (ARes_i (leave_res h).a (ARes_i (hint_res h).a (ARes_i (hint_res h).a (ARes_i (pass_res h hh) (ARes_i (pass_res h hh) (guess_res h).a)))))))
section WS0
variable {g : GS} {h c : Nat}
theorem ne_inc {x : Int32} (q : x = x + 1) : False := by
  have a : x - x = x + 1 - x := by rw [← q]
  rw [Int32.sub_self, Int32.add_comm, Int32.add_sub_cancel] at a
  exact absurd a (by decide)
theorem w309 {G : GS} {v : Int64} (h0 : ¬ (sX6_undo G).1 < 0) (hv : sL_print (sX6_undo G).2 = v) : bL_waits_302 G v = (1, (sX6_undo G).2) := by
  unfold bL_waits_302 bL_waits_309
  rw [if_neg (by decide), if_neg h0, hv, if_pos (show lg_cmp v v = 0 from by unfold lg_cmp; simp)]
theorem w89 {gg : GS} {w : Row} {v1 v4 v5 v6 v7 v8 v9 v12 : Int32} {v10 : Int64} (hcn : Cn w) (e : gg.1 0 = w) : ∀ (n p : Nat), p ≤ nn (w 6) → nn (w 6) - p < n →
    bL_waits_89 n gg v1 (w 6) v4 v5 v6 v7 v8 v9 v10 v12 (sumI (fun k => w (104 + 8 * k + 6)) p) (sumI (fun k => w (104 + 8 * k + 7)) p) p =
    (if (sX6_pass gg v1).1 = v6 then (bL_waits_142 (nn (w 6) + 1) ((sX6_pass gg v1).2) v1 (w 6) v4 v5 v7 v8 v9 v10 v12 (sumI (fun k => w (104 + 8 * k + 6)) (nn (w 6))) (sumI (fun k => w (104 + 8 * k + 7)) (nn (w 6))) 0) else ((0, (sX6_pass gg v1).2))) := by
  have h8 := hcn.2.2.le
  intro n
  induction n with
  | zero => intro p _ q; omega
  | succ n ih =>
    intro p hp hn
    rw [bL_waits_89]
    have hcl := cnt_le (c := w 6) (p := p) hcn.2.2 (by omega)
    by_cases d : w 6 ≤ nI p
    · rw [if_pos d, show p = nn (w 6) by have := hcl.mp d; omega]
    · rw [if_neg d]
      have hp2 : p < nn (w 6) := by
        rcases Nat.lt_or_ge p (nn (w 6)) with q | q
        · exact q
        · exact absurd (hcl.mpr q) d
      rw [ofC_6 (by rw [e]; exact hcn) (by rw [e]; exact hp2), ofC_7 (by rw [e]; exact hcn) (by rw [e]; exact hp2), e]
      exact ih (p + 1) (by omega) (by omega)
theorem sub_sum {a b c : Int32} : a - b - c = a - (b + c) := by
  rw [Int32.sub_eq_add_neg, Int32.sub_eq_add_neg, Int32.sub_eq_add_neg, Int32.neg_add, Int32.sub_eq_add_neg, Int32.add_assoc]
end WS0
