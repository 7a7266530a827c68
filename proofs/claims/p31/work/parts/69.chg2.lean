/-! changes: a guess, one that leaves, a hint -/
theorem cntL_a {w : Row} {k c : Nat} : ∀ (l : List Nat), cntL w k (l ++ [c]) = cntL w k l + (if w (104 + 8 * c + 2) = nI k then 1 else 0) := by
  intro l
  induction l with
  | nil =>
    show cntL w k [c] = 0 + _
    rw [cntL]
    by_cases d : w (104 + 8 * c + 2) = nI k
    · rw [if_pos d, if_pos d]; rfl
    · rw [if_neg d, if_neg d]; rfl
  | cons x l ih =>
    show cntL w k (x :: (l ++ [c])) = _
    rw [cntL, cntL, ih]
    by_cases d : w (104 + 8 * x + 2) = nI k
    · rw [if_pos d, if_pos d]; omega
    · rw [if_neg d, if_neg d]
theorem guess_res {w : Row} {x y z : Int32} (h : WI w) : Res w (sX5_comeToWait w x y z) := by
  unfold sX5_comeToWait
  refine Res_o (Res_o (Res_no (by decide)) (fun _ _ => Res_no (by decide))) (fun c hc => Res_o (Res_no (by decide)) (fun i hi => Res_i (fun _ => Res_no (by decide)) (fun c1 => Res_i (fun c2 => Res_i (fun _ => Res_no (by decide)) (fun c3 => Res_i (fun c4 => ?_) (fun _ => Res_no (by decide)))) (fun _ => Res_no (by decide)))))
  obtain ⟨hc8, hx, hc6⟩ := cartOf_some h.cn hc
  obtain ⟨hi12, hy, hi5⟩ := bridgeOf_some h.cn hi
  have h6 := h.a.n6
  have h5 := h.a.n5
  have hw : w (104 + 8 * c + 2) = -6 := by
    unfold sX1_isWaiting at c2
    by_cases q : w (104 + 8 * c + 2) = -6
    · exact q
    · rw [if_neg q] at c2; exact absurd c2 (by decide)
  have ht : w (104 + 8 * c) = w (20 + 7 * i) ∨ w (104 + 8 * c) = w (20 + 7 * i + 1) := by
    unfold sX0_isAt at c3
    by_cases q : w (20 + 7 * i) = w (104 + 8 * c)
    · exact Or.inl q.symm
    · rw [if_neg q] at c3
      by_cases q2 : w (20 + 7 * i + 1) = w (104 + 8 * c)
      · exact Or.inr q2.symm
      · rw [if_neg q2] at c3; exact absurd rfl c3
  have hz := isB_iff.mp c1
  have hL : nn (w 10) < 8 := nn_lt_lit (n := 8) c4 h.cn.1 (by omega)
  obtain ⟨L, hL0⟩ : ∃ L, L = nn (w 10) := ⟨_, rfl⟩
  rw [← hL0] at hL ⊢
  rw [show upd w (12 + L) x 10 = w 10 from updn (by omega)]
  rw [show upd (upd (upd (upd w (12 + L) x) 10 (w 10 + 1)) (104 + 8 * c + 2) y) (104 + 8 * c + 3) z (360 + i) = w (360 + i) from by rw [updn (by omega), updn (by omega), updn (by omega), updn (by omega)]]
  obtain ⟨e10, n10⟩ := nn_inc h.cn.1 (by omega)
  obtain ⟨V, hV⟩ : ∃ V : Row, V = upd (upd (upd (upd (upd w (12 + L) x) 10 (w 10 + 1)) (104 + 8 * c + 2) y) (104 + 8 * c + 3) z) (360 + i) (w (360 + i) + 1) := ⟨_, rfl⟩
  rw [← hV]
  have E : ∀ j, ¬ (j = 10 ∨ j = 12 + L ∨ j = 104 + 8 * c + 2 ∨ j = 104 + 8 * c + 3 ∨ j = 360 + i) → V j = w j := fun j hj => by rw [hV, updn (by omega), updn (by omega), updn (by omega), updn (by omega), updn (by omega)]
  have Vk : V (360 + i) = w (360 + i) + 1 := by rw [hV, upde]
  have V3 : V (104 + 8 * c + 3) = z := by rw [hV, updn (by omega), upde]
  have V2 : V (104 + 8 * c + 2) = nI i := by rw [hV, updn (by omega), updn (by omega), upde, hy]
  have V10 : V 10 = w 10 + 1 := by rw [hV, updn (by omega), updn (by omega), updn (by omega), upde]
  have VL : V (12 + L) = nI c := by rw [hV, updn (by omega), updn (by omega), updn (by omega), updn (by omega), upde, hx]
  have hcq : ¬ c ∈ qs w := fun q => by
    obtain ⟨-, k, hk, hkw⟩ := h.q.2.1 c q
    rw [hw] at hkw
    exact nn_neg6 (by omega) hkw.symm
  have eq : qs V = qs w ++ [c] := by
    unfold qs
    rw [V10, n10, ← hL0, ql_snoc, Nat.zero_add, VL, nn_nI (by omega), ql_congr L 0 (fun k h1 h2 => E _ (by omega))]
  have hn := h.n c hc8 hw
  have hki := h.k i hi12
  have hkb := cntL_len (w := w) (i := i) (qs w)
  rw [qs_len] at hkb
  have ek : w (360 + i) + 1 = nI (cntL w i (qs w) + 1) := by rw [hki, nI_1]
  refine Res_yes ?_ ?_ (E 4 (by omega))
  · rw [Vk, ek]; exact nIp (by omega)
  refine ⟨?_, ?_, ?_, ?_, WB_c (fun j hj => E j (by omega)) h.b, WR_c (fun j hj => E j (by omega)) h.r, ?_, ?_, WT_c (fun j hj => E j (by omega)) h.t, WM_c (fun j hj => E j (by omega)) h.m, WX_c (fun j hj => E j (by omega)) h.x, WP_c (fun j hj => E j (by omega)) h.p, WZ_c (fun j hj => E j (by omega)) h.z, WS_c (fun j hj => E j (by omega)) h.s⟩
  · refine ⟨⟨?_, ?_, ?_⟩, fun k hk => ?_⟩
    · rw [V10, e10]; exact sm_nI (by omega) (by omega)
    · rw [E 5 (by omega)]; exact h.cn.2.1
    · rw [E 6 (by omega)]; exact h.cn.2.2
    · by_cases e : k = L
      · subst e; rw [VL]; exact sm_nI (by omega) (by omega)
      · rw [E _ (by omega)]; exact h.a.2 k hk
  · unfold WQ
    rw [eq, E 5 (by omega), E 6 (by omega)]
    refine ⟨?_, fun k hk => ?_, fun k hk => ?_⟩
    · rw [List.nodup_append]
      refine ⟨h.q.1, by simp, fun a ha b hb => ?_⟩
      rw [List.mem_singleton] at hb
      subst hb
      exact fun q => hcq (by rw [← q]; exact ha)
    · rcases List.mem_append.mp hk with q | q
      · have hk8 := h.q8 q
        have hkc : ¬ k = c := fun e => hcq (by rw [← e]; exact q)
        rw [E _ (by omega)]; exact h.q.2.1 k q
      · rw [List.mem_singleton] at q
        subst q
        exact ⟨hc6, i, hi5, V2⟩
    · by_cases e : k = c
      · subst e; exact Or.inr (List.mem_append.mpr (Or.inr (List.mem_singleton.mpr rfl)))
      · rw [E _ (by omega)]
        rcases h.q.2.2 k hk with q | q
        · exact Or.inl q
        · exact Or.inr (List.mem_append.mpr (Or.inl q))
  · intro k hk hq
    have hkc : ¬ k = c := fun e => by
      subst e
      rw [V2] at hq
      exact nn_neg6 (by omega) hq
    rw [E _ (by omega)] at hq
    rw [E _ (by omega), E _ (by omega)]; exact h.n k hk hq
  · intro k hk
    have cc : cntL V k (qs w) = cntL w k (qs w) := cntL_congr _ (fun a ha => by
      have a8 := h.q8 ha
      have hac : ¬ a = c := fun e => hcq (by rw [← e]; exact ha)
      exact E _ (by omega))
    rw [eq, cntL_a, cc, V2]
    by_cases e : k = i
    · subst e; rw [Vk, if_pos rfl, h.k k hk, nI_1]
    · rw [E _ (by omega), if_neg (by rw [nI_eq (by omega) (by omega)]; exact fun q => e q.symm), h.k k hk]; rfl
  · intro k j hk hj hq
    by_cases e : k = c
    · subst e
      rw [V2, nI_eq (by omega) (by omega)] at hq
      subst hq
      rw [E (104 + 8 * k) (by omega), E (20 + 7 * i) (by omega), E (20 + 7 * i + 1) (by omega), V3, E (20 + 7 * i + 2) (by omega), E (104 + 8 * k + 4) (by omega), E 4 (by omega), hn.2, show (0 : Int32).toInt = 0 from by decide]
      exact ⟨ht, hz, by omega, h.s.2.2.2.2.2⟩
    · rw [E _ (by omega)] at hq
      rw [E (104 + 8 * k) (by omega), E (20 + 7 * j) (by omega), E (20 + 7 * j + 1) (by omega), E (104 + 8 * k + 3) (by omega), E (20 + 7 * j + 2) (by omega), E (104 + 8 * k + 4) (by omega), E 4 (by omega)]
      exact h.e k j hk hj hq
  · unfold WD
    rw [eq, List.pairwise_append]
    refine ⟨?_, by simp, fun a ha b hb => ?_⟩
    · refine List.Pairwise.imp_of_mem (fun {a b} ha hb hab => ?_) h.d
      have a8 := h.q8 ha
      have b8 := h.q8 hb
      rw [E _ (by omega), E _ (by omega)]; exact hab
    · rw [List.mem_singleton] at hb
      subst hb
      have a8 := h.q8 ha
      obtain ⟨-, k, hk, hkw⟩ := h.q.2.1 a ha
      have he := (h.e a k a8 (by omega) hkw).2.2.1
      rw [E _ (by omega), E _ (by omega), hn.2, show (0 : Int32).toInt = 0 from by decide]; exact he
theorem leave_res {w : Row} {x : Int32} (h : WI w) : Res w (sX5_stopWaiting w x) := by
  unfold sX5_stopWaiting
  refine Res_o (Res_no (by decide)) (fun c hc => Res_o (Res_no (by decide)) (fun i hi => ?_))
  obtain ⟨hc8, hx, hc6⟩ := cartOf_some h.cn hc
  obtain ⟨hi12, hy, hi5⟩ := bridgeOf_some h.cn hi
  refine Res_yes (nIp (by omega)) (WI_release (h.in_q hc8 hi12 hy).1 hi12 hy h) (re_E hc8 hi12 h.a 4 (by omega))
theorem half {a b : Int32} {n : Nat} (h0 : 0 ≤ a.toInt) (h1 : a.toInt ≤ b.toInt) (h2 : b.toInt ≤ n) (hn : n < 1000000) : ((a + b) / 2).toInt = (a.toInt + b.toInt) / 2 := by
  have e : (a + b).toInt = a.toInt + b.toInt := ta (by omega)
  rw [Int32.toInt_div_of_ne_right _ _ (by decide), e, show (2 : Int32).toInt = 2 from by decide, Int.tdiv_eq_ediv_of_nonneg (by omega)]
theorem WI_halve {w : Row} {c i : Nat} (hc : c < 8) (hi : i < nn (w 5)) (h : WI w) : WI (sX1_halve w c i) := by
  have h5 := h.a.n5
  have hi12 : i < 12 := by omega
  obtain ⟨r1, r2, r3, r4⟩ := h.r c i hc hi12 hi
  have hs := (h.sz hi).1.2
  have hh := half (a := w (168 + 2 * (12 * c + i))) (b := w (168 + 2 * (12 * c + i) + 1)) (n := 1000) r1 (by omega) (by omega) (by omega)
  unfold sX1_halve sX1_lowest sX1_highest
  generalize (w (168 + 2 * (12 * c + i)) + w (168 + 2 * (12 * c + i) + 1)) / 2 = m at hh ⊢
  by_cases q : m < w (20 + 7 * i + 3)
  · rw [if_pos q]
    rw [Int32.lt_iff_toInt_lt] at q
    have e1 : (m + 1).toInt = m.toInt + 1 := inc_toInt (n := 1000) (by omega) (by omega)
    have E : ∀ j, ¬ j = 168 + 2 * (12 * c + i) → upd w (168 + 2 * (12 * c + i)) (m + 1) j = w j := fun j hj => updn hj
    refine ⟨WA_c (fun j hj => E j (by omega)) h.a, WQ_c (fun j hj => E j (by omega)) h.a h.q, WN_c (fun j hj => E j (by omega)) h.n, WK_c (fun j hj => E j (by omega)) h.a h.q h.k, WB_c (fun j hj => E j (by omega)) h.b, ?_, WE_c (fun j hj => E j (by omega)) h.e, WD_c (fun j hj => E j (by omega)) h.a h.q h.d, WT_c (fun j hj => E j (by omega)) h.t, WM_c (fun j hj => E j (by omega)) h.m, WX_c (fun j hj => E j (by omega)) h.x, WP_c (fun j hj => E j (by omega)) h.p, WZ_c (fun j hj => E j (by omega)) h.z, WS_c (fun j hj => E j (by omega)) h.s⟩
    intro k j hk hj hjn
    rw [E 5 (by omega)] at hjn
    rw [E (20 + 7 * j + 3) (by omega), E (20 + 7 * j + 2) (by omega), E (168 + 2 * (12 * k + j) + 1) (by omega)]
    by_cases e : 168 + 2 * (12 * k + j) = 168 + 2 * (12 * c + i)
    · have e2 : k = c ∧ j = i := by omega
      obtain ⟨rfl, rfl⟩ := e2
      rw [upde, e1]
      omega
    · rw [E _ e]; exact h.r k j hk hj hjn
  · rw [if_neg q]
    rw [Int32.lt_iff_toInt_lt] at q
    have E : ∀ j, ¬ j = 168 + 2 * (12 * c + i) + 1 → upd w (168 + 2 * (12 * c + i) + 1) m j = w j := fun j hj => updn hj
    refine ⟨WA_c (fun j hj => E j (by omega)) h.a, WQ_c (fun j hj => E j (by omega)) h.a h.q, WN_c (fun j hj => E j (by omega)) h.n, WK_c (fun j hj => E j (by omega)) h.a h.q h.k, WB_c (fun j hj => E j (by omega)) h.b, ?_, WE_c (fun j hj => E j (by omega)) h.e, WD_c (fun j hj => E j (by omega)) h.a h.q h.d, WT_c (fun j hj => E j (by omega)) h.t, WM_c (fun j hj => E j (by omega)) h.m, WX_c (fun j hj => E j (by omega)) h.x, WP_c (fun j hj => E j (by omega)) h.p, WZ_c (fun j hj => E j (by omega)) h.z, WS_c (fun j hj => E j (by omega)) h.s⟩
    intro k j hk hj hjn
    rw [E 5 (by omega)] at hjn
    rw [E (20 + 7 * j + 3) (by omega), E (20 + 7 * j + 2) (by omega), E (168 + 2 * (12 * k + j)) (by omega)]
    by_cases e : 168 + 2 * (12 * k + j) + 1 = 168 + 2 * (12 * c + i) + 1
    · have e2 : k = c ∧ j = i := by omega
      obtain ⟨rfl, rfl⟩ := e2
      rw [upde]
      omega
    · rw [E _ e]; exact h.r k j hk hj hjn
theorem halve_o {w : Row} {c i j : Nat} (hj : j < 168) : sX1_halve w c i j = w j := by
  unfold sX1_halve
  split
  · exact updn (by omega)
  · exact updn (by omega)
/-- how many numbers a range has -/
theorem left_eq {w : Row} {c i : Nat} (hc : c < 8) (hi : i < nn (w 5)) (h : WI w) : (sX1_numbersLeft w c i).toInt = (w (168 + 2 * (12 * c + i) + 1)).toInt - (w (168 + 2 * (12 * c + i))).toInt + 1 := by
  have h5 := h.a.n5
  obtain ⟨r1, r2, r3, r4⟩ := h.r c i hc (by omega) hi
  have hs := (h.sz hi).1.2
  unfold sX1_numbersLeft sX1_highest sX1_lowest
  have e : (w (168 + 2 * (12 * c + i) + 1) - w (168 + 2 * (12 * c + i))).toInt = (w (168 + 2 * (12 * c + i) + 1)).toInt - (w (168 + 2 * (12 * c + i))).toInt := ts (by omega)
  rw [inc_toInt (n := 1000) (by omega) (by omega), e]
theorem hint_res {w : Row} {x y : Int32} (h : WI w) : Res w (sX5_buyHint w x y) := by
  unfold sX5_buyHint
  refine Res_o (Res_o (Res_no (by decide)) (fun _ _ => Res_no (by decide))) (fun c hc => Res_o (Res_no (by decide)) (fun i hi => Res_i (fun _ => Res_no (by decide)) (fun c1 => Res_i (fun _ => Res_no (by decide)) (fun c2 => Res_i (fun _ => Res_no (by decide)) (fun c3 => ?_)))))
  obtain ⟨hc8, hx, hc6⟩ := cartOf_some h.cn hc
  obtain ⟨hi12, hy, hi5⟩ := bridgeOf_some h.cn hi
  rw [Int32.lt_iff_toInt_lt] at c2
  have hp := WI_pay (x := w 1) hc6 hi5 h.s.2.1.1 (show (w 1).toInt ≤ (w (104 + 8 * c + 1)).toInt by omega) h
  have p5 : ∀ j, j < 20 → sX1_pay w c (w 1) i j = w j := fun j hj => by
    unfold sX1_pay
    rw [updn (by omega), updn (by omega), updn (by omega)]
  have hv := WI_halve hc8 (show i < nn (sX1_pay w c (w 1) i 5) by rw [p5 5 (by omega)]; exact hi5) hp
  have hf := WI_free (j := 9) (v := sX1_halve (sX1_pay w c (w 1) i) c i 9 + 1) (Or.inl rfl) hv
  refine Res_yes ?_ hf ?_
  · have h5' : i < nn (upd (sX1_halve (sX1_pay w c (w 1) i) c i) 9 (sX1_halve (sX1_pay w c (w 1) i) c i 9 + 1) 5) := by
      rw [updn (by omega), halve_o (by omega), p5 5 (by omega)]; exact hi5
    have hr := hf.r c i hc8 hi12 h5'
    rw [left_eq hc8 h5' hf]
    omega
  · rw [updn (by omega), halve_o (by omega), p5 4 (by omega)]
