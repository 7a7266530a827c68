/-! a turn of the law's loop, and how it begins -/
theorem WI.zn {w : Row} (h : WI w) : Zn w := fun i _ hi q => by
  have := (h.sz hi).2
  rw [q] at this
  exact absurd this (by decide)
theorem lc0 {x y : Int64} (h : x = y) : lg_cmp x y = 0 := by
  rw [h]
  unfold lg_cmp
  simp
section TU
variable {g : GS} {k : Nat} {x y : Int32}
theorem it_no (h : LI k g) (hk : k ≤ 36) (ht : (sL_act g x y).1 < 0) : sX6_count (sL_act g x y).2 14 = sX6_count g 14 ∧ sL_print (sL_act g x y).2 = sL_print g ∧ LI (k + 1) (sL_act g x y).2 := by
  have hG := Gn_sL_act (a1 := x) (a2 := y) h.2.2.1
  rw [act_chg] at ht hG ⊢
  rw [chg_1] at ht
  have h4 := h.2.1
  have e := (act_res (x := x) (y := y) h.1 (by omega)).resolve_right (fun q => by
    rw [Int32.lt_iff_toInt_lt, show (0 : Int32).toInt = 0 from by decide] at ht
    have := q.1
    omega)
  obtain ⟨a, b⟩ := chg_no ht e.2
  refine ⟨by rw [ct_14, ct_14, b], print_same a, LI.mono ⟨by rw [a]; exact h.1, by rw [a]; exact h4, hG, by rw [b]; exact h.2.2.2⟩⟩
theorem it_yes (h : LI k g) (hk : k ≤ 36) (ht : ¬ (sL_act g x y).1 < 0) : LI (k + 1) (sL_act g x y).2 ∧ sX6_count (sL_act g x y).2 14 = nI (min (nn (g.2.1 1) + 1) 6) := by
  have hG := Gn_sL_act (a1 := x) (a2 := y) h.2.2.1
  rw [act_chg] at ht hG ⊢
  rw [chg_1] at ht
  have h4 := h.2.1
  obtain ⟨e1, e2, e3⟩ := (act_res (x := x) (y := y) h.1 (by omega)).resolve_left (fun q => ht q.1)
  exact ⟨LI_chg h e1 e2 e3 hG, (chg_yes h.2.2.1 h.2.2.2 e1).2.2.2⟩
theorem it_undo (h : LI k g) (hk : k ≤ 36) (ht : ¬ (sL_act g x y).1 < 0) (hu : nn (g.2.1 1) < 6) :
    (sX6_undo (sL_act g x y).2).1 = sX6_count g 14 ∧ sL_print (sX6_undo (sL_act g x y).2).2 = sL_print g ∧ (sL_act (sX6_undo (sL_act g x y).2).2 x y).1 = (sL_act g x y).1 ∧ LI (k + 1) (sL_act (sX6_undo (sL_act g x y).2).2 x y).2 := by
  have hG := Gn_sL_act (a1 := x) (a2 := y) h.2.2.1
  have hU := Gn_sX6_undo hG
  have hA := Gn_sL_act (a1 := x) (a2 := y) hU
  rw [act_chg] at ht
  rw [chg_1] at ht
  have h4 := h.2.1
  obtain ⟨e1, e2, e3⟩ := (act_res (x := x) (y := y) h.1 (by omega)).resolve_left (fun q => ht q.1)
  have af := chg_yes h.2.2.1 h.2.2.2 e1
  rw [← act_chg] at af
  obtain ⟨u1, u2, u3, u4⟩ := undo_aft h.2.2.1 h.2.2.2 af
  have em : min (nn (g.2.1 1) + 1) 6 - 1 = nn (g.2.1 1) := by omega
  rw [em] at u1 u4
  rw [← h.2.2.2.eq] at u1 u4
  obtain ⟨U, eU⟩ : ∃ U, U = (sX6_undo (sL_act g x y).2).2 := ⟨_, rfl⟩
  rw [← eU] at hU hA u2 u3 u4 ⊢
  refine ⟨u1, print_same u2, ?_, ?_⟩
  · rw [act_chg, act_chg, chg_1, chg_1, u2]
  · have hL : LI k U := ⟨by rw [u2]; exact h.1, by rw [u2]; exact h4, hU, by rw [u4]; exact h.2.2.2⟩
    rw [act_chg] at hA ⊢
    rw [u2] at hA ⊢
    exact LI_chg hL e1 e2 (by rw [u2]; exact e3) hA
/-- states: how many changes can be undone -/
theorem st_ge (h : LI k g) (c : 6 ≤ sX6_count g 14) (e : sX6_count (sL_act g x y).2 14 = nI (min (nn (g.2.1 1) + 1) 6)) : sX6_count (sL_act g x y).2 14 = 6 := by
  rw [ct_14] at c
  rw [e]
  have := nn_toInt h.2.2.2.1
  rw [Int32.le_iff_toInt_le, show (6 : Int32).toInt = 6 from by decide] at c
  rw [Nat.min_eq_right (by omega)]; rfl
theorem st_lt (h : LI k g) (c : ¬ 6 ≤ sX6_count g 14) : nn (g.2.1 1) < 6 := by
  rw [ct_14] at c
  have := nn_toInt h.2.2.2.1
  rw [Int32.le_iff_toInt_le, show (6 : Int32).toInt = 6 from by decide] at c
  omega
theorem st_in (h : LI k g) (c : ¬ 6 ≤ sX6_count g 14) (e : sX6_count (sL_act g x y).2 14 = nI (min (nn (g.2.1 1) + 1) 6)) : sX6_count (sL_act g x y).2 14 = sX6_count g 14 + 1 := by
  have := st_lt h c
  rw [e, ct_14, Nat.min_eq_left (by omega), ← nI_1, ← h.2.2.2.eq]
theorem hangs_LI (h : LI k g) (hk : k ≤ 40) : ∃ g' : GS, sL_hangs g = (1, g') ∧ LI k g' := by
  have h4 := h.2.1
  have h0 := h.1.s.2.2.2.2.2
  obtain ⟨g', hS, e⟩ := hangs_ok (g := g) ⟨h0, by omega⟩ h.1
  have hG := Gn_sL_hangs h.2.2.1
  rw [e] at hG
  exact ⟨g', e, by rw [hS.w]; exact h.1, by rw [hS.w]; exact h4, hG, by rw [hS.2]; exact h.2.2.2⟩
theorem guesses_LI {z : Int32} (h : LI k g) : sL_guesses g (sL_low (y >>> (3 &&& 31)) 5) (sL_low (y >>> (6 &&& 31)) 4) z = 1 := by
  obtain ⟨c, hc, ec⟩ := low_lit (a := y >>> (3 &&& 31)) (m := 5) (by omega) (by omega)
  obtain ⟨i, hi, ei⟩ := low_lit (a := y >>> (6 &&& 31)) (m := 4) (by omega) (by omega)
  rw [show sL_low (y >>> (3 &&& 31)) 5 = nI c from ec, show sL_low (y >>> (6 &&& 31)) 4 = nI i from ei]
  exact guesses_ok h.1 (by omega) (by omega)
theorem waits_LI {z : Int32} (h : LI k g) (hk : k ≤ 40) : ∃ g' : GS, sL_waits g ((1 : Int32) + (sL_low (y >>> (1 &&& 31)) 12)) z = (1, g') ∧ LI k g' := by
  have h4 := h.2.1
  obtain ⟨r, hr, er⟩ := low_lit (a := y >>> (1 &&& 31)) (m := 12) (by omega) (by omega)
  have e1 : (1 : Int32) + sL_low (y >>> (1 &&& 31)) 12 = nI (r + 1) := by
    rw [show sL_low (y >>> (1 &&& 31)) 12 = nI r from er, Int32.add_comm]; exact nI_1 r
  rw [e1]
  obtain ⟨g', e, a, b⟩ := waits_ok (g := g) (h := r + 1) (x := z) (by omega) (by omega) h.1 (by omega) h.2.2.1 h.2.2.2
  have hG := Gn_sL_waits (a1 := nI (r + 1)) (a2 := z) h.2.2.1
  rw [e] at hG
  exact ⟨g', e, by rw [a]; exact h.1, by rw [a]; exact h4, hG, b⟩
theorem notes_LI {z : Int32} (h : LI k g) : ∃ g' : GS, sL_notes g (sL_low z (sX6_count g 2 + 1)) = (1, g') ∧ LI k g' := by
  have n6 := h.1.a.n6
  obtain ⟨e6, m6⟩ := nn_inc h.1.cn.2.2 (by omega)
  obtain ⟨c, hc, ec⟩ := low_eq (a := z) (b := sX6_count g 2 + 1) (m := 9) (by rw [ct_2, e6]; exact sm_nI (by omega) (by omega)) (by rw [ct_2, e6, nI_toInt (by omega)]; omega) (by omega)
  rw [ct_2, m6] at hc
  rw [ec]
  obtain ⟨u', e, a, b⟩ := notes_ok (c := c) h.2.2.1.2.1 h.1 (by omega)
  refine ⟨upC g u', e, h.1, h.2.1, ⟨h.2.2.1.1, b, ?_⟩, ?_⟩
  · show sm (u' 0) 6
    rw [a.1]; exact h.2.2.1.2.2
  · show sm (u' 1) 6
    rw [a.2]; exact h.2.2.2
/-- a bridge and a cart at the start -/
theorem start_b {p q : Int32} {r : Nat} {z : Int32} (h : LI k g) (hp : sm p 7) (hq : sm q 7) (hpq : ¬ p = q) (h5 : nn (g.1 0 5) = r) (hr : r < 12) {m : Nat} (hm : m ≤ 900) (h0 : 0 < m) : (sX6_bridge g p q ((2 : Int32) + (sL_low z (nI m)))).1 = nI r ∧ LI k (sX6_bridge g p q ((2 : Int32) + (sL_low z (nI m)))).2 ∧ nn ((sX6_bridge g p q ((2 : Int32) + (sL_low z (nI m)))).2.1 0 5) = r + 1 ∧ (sX6_bridge g p q ((2 : Int32) + (sL_low z (nI m)))).2.1 0 6 = g.1 0 6 := by
  obtain ⟨a, ha, ea⟩ := low_lit (a := z) (m := m) h0 (by omega)
  have e : (2 : Int32) + sL_low z (nI m) = nI (2 + a) := by
    rw [ea]; exact nI_add 2 a
  have hG := Gn_sX6_bridge (x := p) (y := q) (z := (2 : Int32) + sL_low z (nI m)) h.2.2.1
  rw [e] at hG ⊢
  obtain ⟨b1, b2, b3⟩ := addB_ok (x := p) (y := q) (z := nI (2 + a)) h.1 hp hq hpq (sm_nI (by omega) (by omega)) (by rw [nI_toInt (by omega)]; omega) (by omega)
  have hpos : 0 ≤ (sX5_addBridge (g.1 0) p q (nI (2 + a))).1.toInt := by rw [b1, nI_toInt (by omega)]; omega
  have res := (bridge_res (x := p) (y := q) (z := nI (2 + a)) h.1).resolve_left (fun w => by
    have := w.1
    rw [Int32.lt_iff_toInt_lt, show (0 : Int32).toInt = 0 from by decide] at this
    omega)
  rw [bridge_chg] at hG ⊢
  have af := chg_yes (r := sX5_addBridge (g.1 0) p q (nI (2 + a))) h.2.2.1 h.2.2.2 hpos
  refine ⟨by rw [chg_1, b1, h5], ⟨by rw [af.1]; exact res.2.1, by rw [af.1, res.2.2]; exact h.2.1, hG, by rw [af.2.2.2]; exact sm_nI (by omega) (by omega)⟩, ?_, ?_⟩
  · rw [af.1, b2, (nn_inc h.1.cn.2.1 (by omega)).2, h5]
  · rw [af.1, b3]
theorem start_c {r : Nat} {z z' : Int32} {m m' : Nat} (h : LI k g) (h6 : nn (g.1 0 6) = r) (hr : r < 8) (h0 : 0 < m) (hm : m ≤ 8) (h0' : 0 < m') (hm' : m' ≤ 10000) : (sX6_cart g (sL_low z (nI m)) (sL_low z' (nI m'))).1 = nI r ∧ LI k (sX6_cart g (sL_low z (nI m)) (sL_low z' (nI m'))).2 ∧ nn ((sX6_cart g (sL_low z (nI m)) (sL_low z' (nI m'))).2.1 0 6) = r + 1 := by
  obtain ⟨a, ha, ea⟩ := low_lit (a := z) (m := m) h0 (by omega)
  obtain ⟨b, hb, eb⟩ := low_lit (a := z') (m := m') h0' (by omega)
  have hG := Gn_sX6_cart (x := sL_low z (nI m)) (y := sL_low z' (nI m')) h.2.2.1
  rw [ea, eb] at hG ⊢
  obtain ⟨b1, b2⟩ := addC_ok (x := nI a) (y := nI b) h.1 (sm_nI (by omega) (by omega)) (sm_nI (by omega) (by omega)) (by omega)
  have hpos : 0 ≤ (sX5_addCart (g.1 0) (nI a) (nI b)).1.toInt := by rw [b1, nI_toInt (by omega)]; omega
  have res := (cart_res (x := nI a) (y := nI b) h.1).resolve_left (fun w => by
    have := w.1
    rw [Int32.lt_iff_toInt_lt, show (0 : Int32).toInt = 0 from by decide] at this
    omega)
  rw [cart_chg] at hG ⊢
  have af := chg_yes (r := sX5_addCart (g.1 0) (nI a) (nI b)) h.2.2.1 h.2.2.2 hpos
  refine ⟨by rw [chg_1, b1, h6], ⟨by rw [af.1]; exact res.2.1, by rw [af.1, res.2.2]; exact h.2.1, hG, by rw [af.2.2.2]; exact sm_nI (by omega) (by omega)⟩, ?_⟩
  rw [af.1, b2, (nn_inc h.1.cn.2.2 (by omega)).2, h6]
end TU
