/-! changes: a setting, a bridge, a cart -/
def Res (w : Row) (r : Int32 × Row) : Prop := (r.1 < 0 ∧ r.2 = w) ∨ (0 ≤ r.1.toInt ∧ WI r.2 ∧ r.2 4 = w 4)
theorem Res_no {w : Row} {v : Int32} (h : v < 0) : Res w (v, w) := Or.inl ⟨h, rfl⟩
theorem Res_yes {w w' : Row} {v : Int32} (h0 : 0 ≤ v.toInt) (h1 : WI w') (h2 : w' 4 = w 4) : Res w (v, w') := Or.inr ⟨h0, h1, h2⟩
theorem Res_i {w : Row} {q : Prop} {d : Decidable q} {a b : Int32 × Row} (h1 : q → Res w a) (h2 : ¬ q → Res w b) : Res w (@ite _ q d a b) := by
  cases d with
  | isTrue h => exact h1 h
  | isFalse h => exact h2 h
theorem Res_o {w : Row} {o : Option Nat} {a : Int32 × Row} {f : Nat → Int32 × Row} (h1 : Res w a) (h2 : ∀ q, o = some q → Res w (f q)) : Res w (oe o a f) := by
  cases o with
  | none => exact h1
  | some q => exact h2 q rfl
theorem WI_set {w : Row} {j : Nat} {v : Int32} (hj : j < 4) (hv : sm v 50) (h : WI w) : WI (upd w j v) := by
  have E : ∀ j', ¬ j' = j → upd w j v j' = w j' := fun j' h' => updn h'
  refine ⟨WA_c (fun j hj => E j (by omega)) h.a, WQ_c (fun j hj => E j (by omega)) h.a h.q, WN_c (fun j hj => E j (by omega)) h.n, WK_c (fun j hj => E j (by omega)) h.a h.q h.k, WB_c (fun j hj => E j (by omega)) h.b, WR_c (fun j hj => E j (by omega)) h.r, WE_c (fun j hj => E j (by omega)) h.e, WD_c (fun j hj => E j (by omega)) h.a h.q h.d, WT_c (fun j hj => E j (by omega)) h.t, WM_c (fun j hj => E j (by omega)) h.m, WX_c (fun j hj => E j (by omega)) h.x, WP_c (fun j hj => E j (by omega)) h.p, WZ_c (fun j hj => E j (by omega)) h.z, ?_⟩
  unfold WS
  rw [E 7 (by omega), E 4 (by omega)]
  have P : ∀ k, k < 4 → sm (upd w j v k) 50 := fun k hk => by
    by_cases e : k = j
    · subst e; rw [upde]; exact hv
    · rw [E k e]
      rcases (show k = 0 ∨ k = 1 ∨ k = 2 ∨ k = 3 by omega) with q | q | q | q <;> subst q
      · exact h.s.1
      · exact h.s.2.1
      · exact h.s.2.2.1
      · exact h.s.2.2.2.1
  exact ⟨P 0 (by omega), P 1 (by omega), P 2 (by omega), P 3 (by omega), h.s.2.2.2.2.1, h.s.2.2.2.2.2⟩
theorem st_rng {k : Nat} (hk : k < 4) : 0 ≤ (st_least k).toInt ∧ (st_most k).toInt ≤ 50 := by
  rcases (show k = 0 ∨ k = 1 ∨ k = 2 ∨ k = 3 by omega) with q | q | q | q <;> subst q <;> decide
theorem set_res {w : Row} {x v : Int32} (h : WI w) : Res w (sX5_changeSetting w x v) := by
  unfold sX5_changeSetting
  refine Res_i (fun _ => Res_no (by decide)) (fun c1 => Res_i (fun _ => Res_no (by decide)) (fun c2 => Res_i (fun c3 => ?_) (fun _ => Res_no (by decide))))
  have hk := (isB_of c1 (show sm 4 4 from ⟨by decide, by decide⟩)).2.2
  have hr := st_rng hk
  rw [Int32.lt_iff_toInt_lt] at c2
  rw [Int32.le_iff_toInt_le] at c3
  refine Res_yes ?_ (WI_set hk ⟨by omega, by omega⟩ h) (updn (by omega))
  have P : ∀ k, k < 4 → 0 ≤ (w k).toInt := fun k hk => by
    rcases (show k = 0 ∨ k = 1 ∨ k = 2 ∨ k = 3 by omega) with q | q | q | q <;> subst q
    · exact h.s.1.1
    · exact h.s.2.1.1
    · exact h.s.2.2.1.1
    · exact h.s.2.2.2.1.1
  exact P _ hk
theorem nn_inc {v : Int32} {n : Nat} (h : sm v n) (hn : n < 2 ^ 31 - 1) : v + 1 = nI (nn v + 1) ∧ nn (v + 1) = nn v + 1 := by
  have h8 := h.le
  have e : v + 1 = nI (nn v + 1) := by
    have := nI_1 (nn v)
    rw [← h.eq] at this
    exact this
  exact ⟨e, by rw [e, nn_nI (by omega)]⟩
theorem nIp {n : Nat} (h : n < 2 ^ 31) : 0 ≤ (nI n).toInt := by rw [nI_toInt h]; omega
theorem isB_sm8 {x : Int32} (h : ¬ sX6_isBelow x 8 = 0) : sm x 7 := by
  have := isB_iff.mp h
  rw [show (8 : Int32).toInt = 8 from by decide] at this
  exact ⟨this.1, by omega⟩
theorem bridge_res {w : Row} {x y z : Int32} (h : WI w) : Res w (sX5_addBridge w x y z) := by
  unfold sX5_addBridge
  refine Res_i (fun _ => Res_no (by decide)) (fun c1 => Res_i (fun _ => Res_no (by decide)) (fun c2 => Res_i (fun _ => Res_no (by decide)) (fun c3 => Res_i (fun _ => Res_no (by decide)) (fun c4 => Res_i (fun c5 => Res_i (fun c6 => ?_) (fun _ => Res_no (by decide))) (fun _ => Res_no (by decide))))))
  have hx := isB_sm8 c1
  have hy := isB_sm8 c2
  have hz : sm z 1000 := sm_rng (lo := 2) (hi := 1000) c4 c5 (by omega) (by omega)
  have hz2 : 2 ≤ z.toInt := by
    rw [Int32.lt_iff_toInt_lt, show (2 : Int32).toInt = 2 from by decide] at c4
    omega
  have hi : nn (w 5) < 12 := nn_lt_lit (n := 12) c6 h.cn.2.1 (by omega)
  have h5 := h.cn.2.1
  obtain ⟨i, hi0⟩ : ∃ i, i = nn (w 5) := ⟨_, rfl⟩
  rw [← hi0] at hi ⊢
  obtain ⟨A, hA⟩ : ∃ A : Row, A = upd (upd (upd w (20 + 7 * i) x) (20 + 7 * i + 1) y) (20 + 7 * i + 2) z := ⟨_, rfl⟩
  rw [← hA]
  have AE : ∀ j, ¬ (20 + 7 * i ≤ j ∧ j < 20 + 7 * i + 3) → A j = w j := fun j hj => by rw [hA, updn (by omega), updn (by omega), updn (by omega)]
  have A0 : A (20 + 7 * i) = x := by rw [hA, updn (by omega), updn (by omega), upde]
  have A1 : A (20 + 7 * i + 1) = y := by rw [hA, updn (by omega), upde]
  have A2 : A (20 + 7 * i + 2) = z := by rw [hA, upde]
  have hd : sX5_drawRiddle A i = drw A i := dr5 hi (by
    rw [A2]
    intro q
    rw [Int32.le_iff_toInt_le, show (0 : Int32).toInt = 0 from by decide] at q
    omega)
  rw [hd]
  have d5 : drw A i 5 = w 5 := by rw [drw_o hi (by omega) (by omega) (by omega), AE 5 (by omega)]
  rw [d5]
  obtain ⟨e5, n5⟩ := nn_inc h5 (by omega)
  have D : ∀ j, ¬ (j = 7 ∨ j = 20 + 7 * i + 3 ∨ (168 ≤ j ∧ j < 360 ∧ ((j - 168) / 2) % 12 = i)) → drw A i j = A j := fun j hj => drw_o hi (by omega) (by omega) (by omega)
  have E : ∀ j, ¬ (j = 5 ∨ j = 7 ∨ (20 + 7 * i ≤ j ∧ j < 20 + 7 * i + 4) ∨ (168 ≤ j ∧ j < 360 ∧ ((j - 168) / 2) % 12 = i)) → upd (drw A i) 5 (w 5 + 1) j = w j := fun j hj => by
    rw [updn (by omega), D j (by omega), AE j (by omega)]
  have eB : upd (drw A i) 5 (w 5 + 1) 5 = w 5 + 1 := upde
  have hr := rd_sm (sd_sm h.s.2.2.2.2.1) hz hz2 (by omega)
  have hn := nn_toInt hz.1
  have r0 := hr.1
  have r1 := hr.2
  have eR : drw A i (20 + 7 * i + 3) = rd (sd (w 7)) z := by rw [drw_3 hi, A2, AE 7 (by omega)]
  refine Res_yes (nIp (by omega)) ?_ (E 4 (by omega))
  refine ⟨?_, ?_, WN_c (fun j hj => E j (by omega)) h.n, WK_c (fun j hj => E j (by omega)) h.a h.q h.k, ?_, ?_, ?_, WD_c (fun j hj => E j (by omega)) h.a h.q h.d, WT_c (fun j hj => E j (by omega)) h.t, WM_c (fun j hj => E j (by omega)) h.m, WX_c (fun j hj => E j (by omega)) h.x, WP_c (fun j hj => E j (by omega)) h.p, ?_, ?_⟩
  · refine ⟨⟨?_, ?_, ?_⟩, fun k hk => by rw [E _ (by omega)]; exact h.a.2 k hk⟩
    · rw [E 10 (by omega)]; exact h.cn.1
    · rw [eB, e5]; exact sm_nI (by omega) (by omega)
    · rw [E 6 (by omega)]; exact h.cn.2.2
  · unfold WQ
    rw [qs_c (w := w) (fun j hj => E j (by omega)) h.a, E 6 (by omega), eB, n5]
    refine ⟨h.q.1, fun c hc => ?_, fun c hc => ?_⟩
    · have := h.q8 hc
      obtain ⟨a, k, b, d⟩ := h.q.2.1 c hc
      rw [E _ (by omega)]; exact ⟨a, k, by omega, d⟩
    · rw [E _ (by omega)]; exact h.q.2.2 c hc
  · intro k hk hkn
    rw [eB, n5, ← hi0] at hkn
    by_cases e : k = i
    · subst e
      rw [updn (by omega), updn (by omega), updn (by omega), updn (by omega), D _ (by omega), D _ (by omega), D _ (by omega), A0, A1, A2, eR]
      exact ⟨⟨hx, hy⟩, ⟨hz, hz2⟩, r0, by omega⟩
    · rw [E _ (by omega), E _ (by omega), E _ (by omega), E _ (by omega)]; exact h.b k hk (by omega)
  · intro c k hc hk hkn
    rw [eB, n5, ← hi0] at hkn
    by_cases e : k = i
    · subst e
      rw [updn (by omega), updn (by omega), updn (by omega), updn (by omega), (drw_r hi hk hc).1, (drw_r hi hk hc).2, if_pos rfl, if_pos rfl, D (20 + 7 * k + 2) (by omega), A2, eR, pm1 hz, show (0 : Int32).toInt = 0 from by decide]
      omega
    · rw [E _ (by omega), E _ (by omega), E _ (by omega), E _ (by omega)]; exact h.r c k hc hk (by omega)
  · intro c k hc hk hq
    rw [E _ (by omega)] at hq
    have hkn := (h.in_q hc hk hq).2.2
    rw [E (104 + 8 * c) (by omega), E (20 + 7 * k) (by omega), E (20 + 7 * k + 1) (by omega), E (104 + 8 * c + 3) (by omega), E (20 + 7 * k + 2) (by omega), E (104 + 8 * c + 4) (by omega), E 4 (by omega)]
    exact h.e c k hc hk hq
  · refine ⟨fun k hk hkn => ?_, fun c hc hcn => ?_⟩
    · rw [eB, n5] at hkn
      rw [E _ (by omega), E _ (by omega)]; exact h.z.1 k hk (by omega)
    · rw [E 6 (by omega)] at hcn
      rw [E _ (by omega), E _ (by omega), E _ (by omega), E _ (by omega)]; exact h.z.2 c hc hcn
  · unfold WS
    rw [E 0 (by omega), E 1 (by omega), E 2 (by omega), E 3 (by omega), E 4 (by omega), updn (by omega), drw_7 hi, AE 7 (by omega)]
    exact ⟨h.s.1, h.s.2.1, h.s.2.2.1, h.s.2.2.2.1, sd_sm h.s.2.2.2.2.1, h.s.2.2.2.2.2⟩
theorem cart_res {w : Row} {x y : Int32} (h : WI w) : Res w (sX5_addCart w x y) := by
  unfold sX5_addCart
  refine Res_i (fun _ => Res_no (by decide)) (fun c1 => Res_i (fun _ => Res_no (by decide)) (fun c2 => Res_i (fun c3 => Res_i (fun c4 => ?_) (fun _ => Res_no (by decide))) (fun _ => Res_no (by decide))))
  have hx := isB_sm8 c1
  have hy : sm y 9999 := by
    rw [Int32.lt_iff_toInt_lt, show (0 : Int32).toInt = 0 from by decide] at c2
    rw [Int32.le_iff_toInt_le, show (9999 : Int32).toInt = 9999 from by decide] at c3
    exact ⟨by omega, by omega⟩
  have hc : nn (w 6) < 8 := nn_lt_lit (n := 8) c4 h.cn.2.2 (by omega)
  have h6 := h.cn.2.2
  obtain ⟨c, hc0⟩ : ∃ c, c = nn (w 6) := ⟨_, rfl⟩
  rw [← hc0] at hc ⊢
  rw [show upd (upd w (104 + 8 * c) x) (104 + 8 * c + 1) y 8 = w 8 from by rw [updn (by omega), updn (by omega)]]
  rw [show upd (upd (upd w (104 + 8 * c) x) (104 + 8 * c + 1) y) 8 (w 8 + y) 6 = w 6 from by rw [updn (by omega), updn (by omega), updn (by omega)]]
  obtain ⟨e6, n6⟩ := nn_inc h6 (by omega)
  obtain ⟨V, hV⟩ : ∃ V : Row, V = upd (upd (upd (upd w (104 + 8 * c) x) (104 + 8 * c + 1) y) 8 (w 8 + y)) 6 (w 6 + 1) := ⟨_, rfl⟩
  rw [← hV]
  have E : ∀ j, ¬ (j = 6 ∨ j = 8 ∨ j = 104 + 8 * c ∨ j = 104 + 8 * c + 1) → V j = w j := fun j hj => by rw [hV, updn (by omega), updn (by omega), updn (by omega), updn (by omega)]
  have V6 : V 6 = w 6 + 1 := by rw [hV, upde]
  have V8 : V 8 = w 8 + y := by rw [hV, updn (by omega), upde]
  have V0 : V (104 + 8 * c) = x := by rw [hV, updn (by omega), updn (by omega), updn (by omega), upde]
  have V1 : V (104 + 8 * c + 1) = y := by rw [hV, updn (by omega), updn (by omega), upde]
  have hz := (h.z.2 c hc (by omega)).1
  have hm := h.m.2.2.2
  have y0 := hy.1
  have y1 := hy.2
  have m0 : 0 ≤ (w 8).toInt := by
    have a := sumN_pos (f := co w) 8 h.m.1
    have b := sumN_pos (f := tl w) 12 h.m.2.1
    have := h.m.2.2.1
    omega
  have e8 : (w 8 + y).toInt = (w 8).toInt + y.toInt := ta (by omega)
  refine Res_yes (nIp (by omega)) ?_ (E 4 (by omega))
  refine ⟨?_, ?_, WN_c (fun j hj => E j (by omega)) h.n, WK_c (fun j hj => E j (by omega)) h.a h.q h.k, WB_c (fun j hj => E j (by omega)) h.b, WR_c (fun j hj => E j (by omega)) h.r, ?_, WD_c (fun j hj => E j (by omega)) h.a h.q h.d, ?_, ?_, WX_c (fun j hj => E j (by omega)) h.x, WP_c (fun j hj => E j (by omega)) h.p, ?_, WS_c (fun j hj => E j (by omega)) h.s⟩
  · refine ⟨⟨?_, ?_, ?_⟩, fun k hk => by rw [E _ (by omega)]; exact h.a.2 k hk⟩
    · rw [E 10 (by omega)]; exact h.cn.1
    · rw [E 5 (by omega)]; exact h.cn.2.1
    · rw [V6, e6]; exact sm_nI (by omega) (by omega)
  · unfold WQ
    rw [qs_c (w := w) (fun j hj => E j (by omega)) h.a, E 5 (by omega), V6, n6]
    refine ⟨h.q.1, fun k hk => ?_, fun k hk => ?_⟩
    · have := h.q8 hk
      have hq := h.q.2.1 k hk
      rw [E _ (by omega)]; exact ⟨by omega, hq.2⟩
    · rw [E _ (by omega)]; exact h.q.2.2 k hk
  · intro k i hk hi hq
    rw [E _ (by omega)] at hq
    have hkn := (h.in_q hk hi hq).2.1
    rw [E (104 + 8 * k) (by omega), E (20 + 7 * i) (by omega), E (20 + 7 * i + 1) (by omega), E (104 + 8 * k + 3) (by omega), E (20 + 7 * i + 2) (by omega), E (104 + 8 * k + 4) (by omega), E 4 (by omega)]
    exact h.e k i hk hi hq
  · intro k hk
    by_cases e : k = c
    · subst e; rw [V0]; exact hx
    · rw [E _ (by omega)]; exact h.t k hk
  · have co_o : ∀ k, k < 8 → ¬ k = c → co V k = co w k := fun k hk hkc => congrArg Int32.toInt (E _ (by omega))
    have co_c : co V c = y.toInt := by unfold co; rw [V1]
    have co_z : co w c = 0 := by unfold co; rw [hz]; decide
    have tl_o : ∀ i, i < 12 → tl V i = tl w i := fun i hi => congrArg Int32.toInt (E _ (by omega))
    refine ⟨fun k hk => ?_, fun i hi => by rw [tl_o i hi]; exact h.m.2.1 i hi, ?_, ?_⟩
    · by_cases e : k = c
      · subst e; rw [co_c]; exact y0
      · rw [co_o k hk e]; exact h.m.1 k hk
    · rw [sumN_one 8 hc co_o, sumN_congr 12 tl_o, co_c, co_z, V8, e8]
      have := h.m.2.2.1
      omega
    · rw [V8, e8, V6, n6]; omega
  · refine ⟨fun k hk hkn => ?_, fun k hk hkn => ?_⟩
    · rw [E 5 (by omega)] at hkn
      rw [E _ (by omega), E _ (by omega)]; exact h.z.1 k hk hkn
    · rw [V6, n6] at hkn
      rw [E _ (by omega), E _ (by omega), E _ (by omega), E _ (by omega)]; exact h.z.2 k hk (by omega)
