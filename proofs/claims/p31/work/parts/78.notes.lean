/-! the law's notes -/
section NT
variable {u : Row} {T : List Int32}
theorem sg_in {j : Nat} {v : Int32} (h : Txt u T) (hj : T[j]? = some v) (h80 : j < 80) : sX6_sign u (nI j) = v := by
  have hl : j < T.length := (List.getElem?_eq_some_iff.mp hj).1
  have e := h.2 j hl h80
  rw [hj] at e
  have hm : j < min T.length 80 := by omega
  have hb : min T.length 80 ≤ 80 := Nat.min_le_right _ _
  unfold sX6_sign sX4_codeAt
  rw [if_neg (nI_pos (by omega)), h.1, if_neg (nI_ge hm (by omega)), nn_nI (by omega)]
  exact (Option.some.inj e).symm
theorem sg_out {j : Nat} (h : Txt u T) (hj : min T.length 80 ≤ j) (hb : j < 2 ^ 31) : sX6_sign u (nI j) = -1 := by
  unfold sX6_sign sX4_codeAt
  rw [if_neg (nI_pos hb), h.1, if_pos (nI_le hj hb)]
theorem stp_eq {m : Nat} {v : Int32} (h : isD v) : (10 * nI m + v) - 48 = nI (stp m v) := by
  obtain ⟨d, hd, e⟩ := h
  unfold stp
  rw [e, nn_nI (by omega), show 48 + d - 48 = d by omega, show (10 : Int32) * nI m = nI (10 * m) from nI_mul 10 m, nI_add, show 10 * m + (48 + d) = 10 * m + d + 48 by omega, ← nI_add]
  exact Int32.add_sub_cancel _ _
theorem isD_b {v : Int32} (h : isD v) : ¬ v < 48 ∧ ¬ 57 < v := by
  obtain ⟨d, hd, e⟩ := h
  rw [e, Int32.lt_iff_toInt_lt, Int32.lt_iff_toInt_lt, nI_toInt (by omega), show (48 : Int32).toInt = 48 from by decide, show (57 : Int32).toInt = 57 from by decide]
  omega
theorem h118 {gg : GS} {v1 v2 v3 : Int32} : ∀ (D : List Int32) (n q m : Nat), (∀ v, v ∈ D → isD v) → (∀ k v, D[k]? = some v → sX6_sign gg.2.1 (nI (q + k)) = v) → (sX6_sign gg.2.1 (nI (q + D.length)) < 48 ∨ 57 < sX6_sign gg.2.1 (nI (q + D.length))) → D.length < n →
    bL_notes_118 n gg v1 v2 v3 (nI m) q = bL_notes_163 gg v1 v2 v3 (nI (vl m D)) (nI (q + D.length)) := by
  intro D
  induction D with
  | nil =>
    intro n q m _ _ hs hn
    obtain ⟨n, rfl⟩ : ∃ k, n = k + 1 := ⟨n - 1, by have := hn; simp at this; omega⟩
    rw [bL_notes_118, vl_nil]
    rw [List.length_nil, Nat.add_zero] at hs ⊢
    by_cases c : sX6_sign gg.2.1 (nI q) < 48
    · rw [if_pos c]; rfl
    · rw [if_neg c, if_pos (hs.resolve_left c)]; rfl
  | cons v D ih =>
    intro n q m hD hk hs hn
    obtain ⟨n, rfl⟩ : ∃ k, n = k + 1 := ⟨n - 1, by omega⟩
    have hv := hD v List.mem_cons_self
    have e : sX6_sign gg.2.1 (nI q) = v := hk 0 v rfl
    rw [bL_notes_118, e, if_neg (isD_b hv).1, if_neg (isD_b hv).2, stp_eq hv, vl_cons]
    rw [List.length_cons] at hs hn ⊢
    rw [show q + (D.length + 1) = q + 1 + D.length by omega] at hs ⊢
    exact ih n (q + 1) (stp m v) (fun x hx => hD x (List.mem_cons_of_mem _ hx)) (fun k x hx => by
      have := hk (k + 1) x hx
      rw [show q + 1 + k = q + (k + 1) by omega]
      exact this) hs (by omega)
theorem h207 {gg : GS} {v1 v3 : Int32} (h : Txt gg.2.1 T) : ∀ (n p : Nat), p ≤ min T.length 80 → min T.length 80 - p < n →
    bL_notes_207 n gg v1 (nI (min T.length 80)) v3 (nI (c59 (T.take p))) p = bL_notes_246 13 gg v1 (nI (min T.length 80)) v3 (nI (c59 (T.take (min T.length 80)))) 0 0 := by
  have hb : min T.length 80 ≤ 80 := Nat.min_le_right _ _
  have hb2 : min T.length 80 ≤ T.length := Nat.min_le_left _ _
  intro n
  induction n with
  | zero => intro p _ q; omega
  | succ n ih =>
    intro p hp hn
    rw [bL_notes_207]
    by_cases c : nI (min T.length 80) ≤ nI p
    · have e : p = min T.length 80 := by
        have := (nI_leI (by omega) (by omega)).mp c
        omega
      rw [if_pos c, ← e]
    · rw [if_neg c]
      have hp2 : p < min T.length 80 := by
        rcases Nat.lt_or_ge p (min T.length 80) with q | q
        · exact q
        · exact absurd (nI_le q (by omega)) c
      obtain ⟨v, hv⟩ : ∃ v, T[p]? = some v := ⟨T[p], List.getElem?_eq_getElem (by omega)⟩
      have es : T.take (p + 1) = T.take p ++ [v] := by rw [List.take_add_one, hv]; rfl
      have ec : c59 (T.take (p + 1)) = c59 (T.take p) + (if v = 59 then 1 else 0) := by
        rw [es, c59_app]
        by_cases q : v = 59
        · rw [if_pos q, c59, if_pos q]; rfl
        · rw [if_neg q, c59, if_neg q]; rfl
      rw [sg_in h hv (by omega)]
      have I := ih (p + 1) (by omega) (by omega)
      rw [ec] at I
      by_cases q : v = 59
      · rw [if_pos q, nI_1]
        rw [if_pos q] at I
        exact I
      · rw [if_neg q, Int32.add_zero]
        rw [if_neg q, Nat.add_zero] at I
        exact I
end NT
/-- of how many bridges ahead of p a cart knows more than nothing -/
def kq (w : Row) (c : Nat) : Nat → Nat
  | 0 => 0
  | p + 1 => kq w c p + (if (w (20 + 7 * p + 2)).toInt ≤ (sX1_numbersLeft w c p).toInt then 0 else 1)
theorem kq_le {w : Row} {c : Nat} : ∀ (p : Nat), kq w c p ≤ p := by
  intro p
  induction p with
  | zero => exact Nat.le_refl 0
  | succ p ih => rw [kq]; split <;> omega
theorem c59_pt {w : Row} {c i : Nat} : c59 (pt w c i) = 1 := by
  unfold pt
  rw [c59_app, c59_app, c59_app, c59_app, c59_app, c59_D _ (dl_D 9), c59_D _ (dl_D 9), c59_D _ (dl_D 9)]
  rfl
theorem c59_tail {w : Row} {c : Nat} : ∀ (m p : Nat), c59 (tail w c m p) + kq w c p = kq w c (p + m) := by
  intro m
  induction m with
  | zero => intro p; rw [tail, c59, Nat.add_zero, Nat.zero_add]
  | succ m ih =>
    intro p
    have I := ih (p + 1)
    rw [show p + 1 + m = p + (m + 1) by omega] at I
    rw [← I, tail, c59_app, kq]
    by_cases q : (w (20 + 7 * p + 2)).toInt ≤ (sX1_numbersLeft w c p).toInt
    · rw [if_pos q, if_pos q, c59]; omega
    · rw [if_neg q, if_neg q, c59_pt]; omega
theorem c59_note {w : Row} {c : Nat} (hc : c < 10) (ht : nn (w (104 + 8 * c)) < 10) : c59 (note w c) = kq w c (nn (w 5)) := by
  unfold note
  rw [c59_app, c59_app, c59_D _ (dl_D 9)]
  have a := c59_tail (w := w) (c := c) (nn (w 5)) 0
  rw [Nat.zero_add, show kq w c 0 = 0 from rfl, Nat.add_zero] at a
  rw [a]
  have b : c59 [99, nI (48 + c), 64, nI (48 + nn (w (104 + 8 * c))), 42] = 0 := by
    rw [c59, if_neg (by decide), c59, if_neg (isD_59 ⟨c, hc, rfl⟩), c59, if_neg (by decide), c59, if_neg (isD_59 ⟨_, ht, rfl⟩), c59, if_neg (by decide), c59]
  rw [b]; omega
section NU
variable {gg : GS} {T : List Int32} {c : Nat}
theorem h330 (h : Txt gg.2.1 T) : bL_notes_330 gg (nI (min T.length 80)) = (1, upC gg (sX4_clear gg.2.1)) := by
  have hb : min T.length 80 ≤ 80 := Nat.min_le_right _ _
  unfold bL_notes_330
  rw [sg_out h (Nat.le_refl _) (by omega), if_pos rfl]
  have e : (sX6_wipe gg.2.1).1 = nI (min T.length 80) := h.1
  rw [if_pos e]
  rfl
theorem h246 (hT : Txt gg.2.1 T) (h : WI (gg.1 0)) (hc : c < nn (gg.1 0 6)) {m : Nat} (hm : m < 2 ^ 31) (hend : if 80 ≤ min T.length 80 then m ≤ kq (gg.1 0) c (nn (gg.1 0 5)) else m = kq (gg.1 0) c (nn (gg.1 0 5))) : ∀ (n p : Nat), p ≤ nn (gg.1 0 5) → nn (gg.1 0 5) - p < n →
    bL_notes_246 n gg (nI c) (nI (min T.length 80)) 1 (nI m) (nI (kq (gg.1 0) c p)) p = (1, upC gg (sX4_clear gg.2.1)) := by
  have h5 := h.a.n5
  have h6 := h.a.n6
  have hb : min T.length 80 ≤ 80 := Nat.min_le_right _ _
  intro n
  induction n with
  | zero => intro p _ q; omega
  | succ n ih =>
    intro p hp hn
    have hk := kq_le (w := gg.1 0) (c := c) p
    rw [bL_notes_246, ct_1]
    have hcl := cnt_le (c := gg.1 0 5) (p := p) h.cn.2.1 (by omega)
    by_cases d : gg.1 0 5 ≤ nI p
    · have ep : p = nn (gg.1 0 5) := by have := hcl.mp d; omega
      subst ep
      rw [if_pos d, if_neg (show ¬ (1 : Int32) = 0 by decide)]
      by_cases e : 80 ≤ min T.length 80
      · rw [if_pos e] at hend
        rw [if_pos (show (80 : Int32) ≤ nI (min T.length 80) from nI_le (a := 80) e (by omega)), if_neg (fun q => by
          have := Int32.lt_iff_toInt_lt.mp q
          rw [nI_toInt (by omega), nI_toInt (by omega)] at this
          omega)]
        exact h330 hT
      · rw [if_neg e] at hend
        rw [if_neg (show ¬ (80 : Int32) ≤ nI (min T.length 80) from nI_ge (b := 80) (by omega) (by omega)), if_pos (by rw [hend])]
        exact h330 hT
    · rw [if_neg d]
      have hp2 : p < nn (gg.1 0 5) := by
        rcases Nat.lt_or_ge p (nn (gg.1 0 5)) with q | q
        · exact q
        · exact absurd (hcl.mpr q) d
      obtain ⟨r1, r2, r3, r4⟩ := h.r c p (by omega) (by omega) hp2
      have hs := h.sz hp2
      have hs2 := hs.1.2
      have el := left_eq (w := gg.1 0) (c := c) (i := p) (by omega) hp2 h
      have I := ih (p + 1) (by omega) (by omega)
      rw [kq, el] at I
      rw [kn_0 h.cn hc hp2, kn_1 h.cn hc hp2, ofB_2 h.cn hp2]
      have e1 : ((gg.1 0) (20 + 7 * p + 2) - 1).toInt = ((gg.1 0) (20 + 7 * p + 2)).toInt - 1 := pm1 hs.1
      by_cases q1 : 0 < (gg.1 0) (168 + 2 * (12 * c + p))
      · rw [if_pos q1]
        rw [Int32.lt_iff_toInt_lt, show (0 : Int32).toInt = 0 from by decide] at q1
        rw [if_neg (by omega)] at I
        unfold bL_notes_297
        rw [nI_1]
        exact I
      · rw [if_neg q1]
        rw [Int32.lt_iff_toInt_lt, show (0 : Int32).toInt = 0 from by decide] at q1
        by_cases q2 : (gg.1 0) (20 + 7 * p + 2) - 1 ≤ (gg.1 0) (168 + 2 * (12 * c + p) + 1)
        · rw [if_pos q2]
          rw [Int32.le_iff_toInt_le, e1] at q2
          rw [if_pos (by omega), Nat.add_zero] at I
          unfold bL_notes_297
          rw [Int32.add_zero]
          exact I
        · rw [if_neg q2]
          rw [Int32.le_iff_toInt_le, e1] at q2
          rw [if_neg (by omega)] at I
          unfold bL_notes_297
          rw [nI_1]
          exact I
end NU
/-- the places of the history stand -/
def K01 (u u' : Row) : Prop := u' 0 = u 0 ∧ u' 1 = u 1
theorem K01.tr {u u' u'' : Row} (h : K01 u u') (h' : K01 u' u'') : K01 u u'' := ⟨h'.1.trans h.1, h'.2.trans h.2⟩
theorem K01_app {u : Row} {x : Int32} : K01 u (sX4_append u x) := by
  unfold sX4_append
  by_cases c : 80 ≤ u 3
  · rw [if_pos c]; exact ⟨rfl, rfl⟩
  · rw [if_neg c]; exact ⟨by rw [updn (by omega), updn (by omega)], by rw [updn (by omega), updn (by omega)]⟩
theorem K01_clear {u : Row} : K01 u (sX4_clear u) := ⟨updn (by omega), updn (by omega)⟩
theorem K01_num {u : Row} {x : Int32} : K01 u (sX4_appendNumber u x) := by
  have key : ∀ (n : Nat) (v : Row) (un : Int32), K01 u v → K01 u (bX4_appendNumber_3 x n v un) := by
    intro n
    induction n with
    | zero => intro v un h; exact h
    | succ n ih =>
      intro v un h
      rw [bX4_appendNumber_3]
      by_cases c1 : un < 1
      · rw [if_pos c1]; exact h
      rw [if_neg c1]
      by_cases c2 : un ≤ x
      · rw [if_pos c2]; exact ih _ _ (h.tr K01_app)
      rw [if_neg c2]
      by_cases c3 : un = 1
      · rw [if_pos c3]; exact ih _ _ (h.tr K01_app)
      · rw [if_neg c3]; exact ih _ _ h
  exact key 11 u _ ⟨rfl, rfl⟩
theorem K01_note {u w : Row} {c : Nat} : K01 u (sX6_appendNote u w c) := by
  have key : ∀ (n : Nat) (v : Row) (p : Nat), K01 u v → K01 u (bX6_appendNote_62 w c n v p) := by
    intro n
    induction n with
    | zero => intro v p h; exact h
    | succ n ih =>
      intro v p h
      rw [bX6_appendNote_62]
      by_cases c1 : 12 ≤ nI p
      · rw [if_pos c1]; exact h
      rw [if_neg c1]
      cases sX5_bridgeOf w (nI p) with
      | none => rw [oe_none rfl]; exact ih _ _ h
      | some q =>
        rw [oe_some rfl]
        by_cases c2 : w (20 + 7 * q + 2) ≤ sX1_numbersLeft w c q
        · rw [if_pos c2]; exact ih _ _ h
        · rw [if_neg c2]
          exact ih _ _ (((((((h.tr K01_app).tr K01_num).tr K01_app).tr K01_num).tr K01_app).tr K01_num))
  unfold sX6_appendNote
  exact key _ _ _ ((((((K01_app).tr K01_num).tr K01_app).tr K01_num).tr K01_app).tr K01_num)
theorem notes_ok {g : GS} {c : Nat} (hp : Pd g.2.1) (h : WI (g.1 0)) (hc : c ≤ nn (g.1 0 6)) : ∃ u' : Row, sL_notes g (nI c) = (1, upC g u') ∧ K01 g.2.1 u' ∧ Pd u' := by
  have h6 := h.a.n6
  have h5 := h.a.n5
  unfold sL_notes
  by_cases e : c = nn (g.1 0 6)
  · have ew : sX6_write g.2.1 (g.1 0) (nI c) = (-1, g.2.1) := by
      unfold sX6_write
      rw [cartOf_out h.cn (by omega) (by omega), oe_none rfl]
    rw [ew]
    refine ⟨g.2.1, ?_, ⟨rfl, rfl⟩, hp⟩
    show bL_notes_6 (upC g g.2.1) (nI c) (-1) = _
    unfold bL_notes_6
    rw [if_pos (show nI c = sX6_count (upC g g.2.1) 2 from by
      show nI c = g.1 0 6
      rw [e]; exact h.cn.2.2.eq.symm), if_pos rfl]
  · have hc6 : c < nn (g.1 0 6) := by omega
    obtain ⟨u1, hu1⟩ : ∃ u1, u1 = sX6_appendNote (sX4_clear g.2.1) (g.1 0) c := ⟨_, rfl⟩
    have ew : sX6_write g.2.1 (g.1 0) (nI c) = (u1 3, u1) := by
      unfold sX6_write
      rw [cartOf_in h.cn hc6, oe_some rfl, hu1]
    have hT : Txt u1 (note (g.1 0) c) := by rw [hu1]; exact note_ok hc6 h
    have hK : K01 g.2.1 u1 := by rw [hu1]; exact K01_clear.tr K01_note
    rw [ew]
    show ∃ u', bL_notes_6 (upC g u1) (nI c) (u1 3) = _ ∧ _
    obtain ⟨G, hG⟩ : ∃ G, G = upC g u1 := ⟨_, rfl⟩
    have G0 : G.1 0 = g.1 0 := by rw [hG]; rfl
    have Gu : G.2.1 = u1 := by rw [hG]; rfl
    rw [← hG]
    have hT' : Txt G.2.1 (note (g.1 0) c) := by rw [Gu]; exact hT
    have htw := (h.t c (by omega)).le
    have hm := h.m.1 c (by omega)
    obtain ⟨T, hTe⟩ : ∃ T, T = note (g.1 0) c := ⟨_, rfl⟩
    rw [← hTe] at hT hT'
    have hdl := dl_len (x := nn (g.1 0 (104 + 8 * c + 1))) 9
    have hlen : T.length = 5 + (dl (nn (g.1 0 (104 + 8 * c + 1))) 9).length + (tail (g.1 0) c (nn (g.1 0 5)) 0).length := by
      rw [hTe]; unfold note
      rw [List.length_append, List.length_append]; rfl
    have hb : min T.length 80 ≤ 80 := Nat.min_le_right _ _
    have hb2 : 6 ≤ min T.length 80 := by omega
    have e3 : u1 3 = nI (min T.length 80) := hT.1
    -- the single characters at the front
    have f0 : T[0]? = some 99 := by rw [hTe]; rfl
    have f1 : T[1]? = some (nI (48 + c)) := by rw [hTe]; rfl
    have f2 : T[2]? = some 64 := by rw [hTe]; rfl
    have f3 : T[3]? = some (nI (48 + nn (g.1 0 (104 + 8 * c)))) := by rw [hTe]; rfl
    have f4 : T[4]? = some 42 := by rw [hTe]; rfl
    have s0 : sX6_sign G.2.1 0 = 99 := sg_in (j := 0) hT' f0 (by omega)
    have s1 : sX6_sign G.2.1 1 = nI (48 + c) := sg_in (j := 1) hT' f1 (by omega)
    have s2 : sX6_sign G.2.1 2 = 64 := sg_in (j := 2) hT' f2 (by omega)
    have s3 : sX6_sign G.2.1 3 = nI (48 + nn (g.1 0 (104 + 8 * c))) := sg_in (j := 3) hT' f3 (by omega)
    have s4 : sX6_sign G.2.1 4 = 42 := sg_in (j := 4) hT' f4 (by omega)
    have hGc : Cn (G.1 0) := by rw [G0]; exact h.cn
    have o0 : sX6_ofCart G (nI c) 0 = g.1 0 (104 + 8 * c) := by
      rw [ofC_0 hGc (by rw [G0]; exact hc6), G0]
    have o1 : sX6_ofCart G (nI c) 1 = g.1 0 (104 + 8 * c + 1) := by
      rw [ofC_1 hGc (by rw [G0]; exact hc6), G0]
    have ne : ¬ nI c = sX6_count G 2 := by
      show ¬ nI c = G.1 0 6
      rw [G0, h.cn.2.2.eq, nI_eq (by omega) (by omega)]
      exact e
    have e13 : u1 3 = sX6_count G 13 := by
      show u1 3 = G.2.1 3
      rw [Gu]
    -- the digits of its coins
    have D : ∀ k v, (dl (nn (g.1 0 (104 + 8 * c + 1))) 9)[k]? = some v → T[5 + k]? = some v := fun k v hv => by
      have hk := (List.getElem?_eq_some_iff.mp hv).1
      rw [hTe]; unfold note
      rw [List.getElem?_append_left (by rw [List.length_append]; show 5 + k < 5 + _; omega), List.getElem?_append_right (by show 5 ≤ 5 + k; omega)]
      show (dl (nn (g.1 0 (104 + 8 * c + 1))) 9)[5 + k - 5]? = _
      rw [show 5 + k - 5 = k by omega]
      exact hv
    -- what stands behind them
    have B : (5 + (dl (nn (g.1 0 (104 + 8 * c + 1))) 9).length = min T.length 80 ∧ sX6_sign G.2.1 (nI (5 + (dl (nn (g.1 0 (104 + 8 * c + 1))) 9).length)) = -1) ∨ sX6_sign G.2.1 (nI (5 + (dl (nn (g.1 0 (104 + 8 * c + 1))) 9).length)) = 59 := by
      have hd : ∀ m p, tail (g.1 0) c m p = [] ∨ ∃ R, tail (g.1 0) c m p = 59 :: R := by
        intro m
        induction m with
        | zero => intro p; exact Or.inl rfl
        | succ m ih =>
          intro p
          rw [tail]
          by_cases q : (g.1 0 (20 + 7 * p + 2)).toInt ≤ (sX1_numbersLeft (g.1 0) c p).toInt
          · rw [if_pos q, List.nil_append]; exact ih (p + 1)
          · rw [if_neg q]
            refine Or.inr ⟨dl p 9 ++ [58] ++ dl (nn (g.1 0 (168 + 2 * (12 * c + p)))) 9 ++ [45] ++ dl (nn (g.1 0 (168 + 2 * (12 * c + p) + 1))) 9 ++ tail (g.1 0) c m (p + 1), ?_⟩
            unfold pt
            simp only [List.append_assoc, List.cons_append, List.nil_append]
      rcases hd (nn (g.1 0 5)) 0 with q | ⟨R, q⟩
      · have hl : T.length = 5 + (dl (nn (g.1 0 (104 + 8 * c + 1))) 9).length := by
          rw [hlen, q]; rfl
        refine Or.inl ⟨by rw [hl]; omega, sg_out hT' (by rw [hl]; omega) (by omega)⟩
      · refine Or.inr (sg_in hT' ?_ (by omega))
        rw [hTe]; unfold note
        rw [List.getElem?_append_right (by rw [List.length_append]; show 5 + _ ≤ 5 + _; omega), q, List.length_append]
        show (59 :: R)[5 + (dl (nn (g.1 0 (104 + 8 * c + 1))) 9).length - (5 + (dl (nn (g.1 0 (104 + 8 * c + 1))) 9).length)]? = _
        rw [Nat.sub_self]; rfl
    have hcnt : c59 T = kq (g.1 0) c (nn (g.1 0 5)) := by rw [hTe]; exact c59_note (by omega) (by omega)
    have hfin : bL_notes_118 81 G (nI c) (u1 3) 1 0 5 = (1, upC G (sX4_clear G.2.1)) := by
      have h1 := h118 (gg := G) (v1 := nI c) (v2 := u1 3) (v3 := 1) (dl (nn (g.1 0 (104 + 8 * c + 1))) 9) 81 5 0 (dl_D 9) (fun k v hv => sg_in hT' (D k v hv) (by have := (List.getElem?_eq_some_iff.mp hv).1; omega)) (by
        rcases B with ⟨-, q⟩ | q
        · rw [q]; exact Or.inl (by decide)
        · rw [q]; exact Or.inr (by decide)) (by omega)
      rw [vl_9 nn_b] at h1
      refine h1.trans ?_
      have e195 : bL_notes_195 G (nI c) (u1 3) = (1, upC G (sX4_clear G.2.1)) := by
        unfold bL_notes_195
        rw [e3, nn_nI (by omega)]
        have l1 := h207 (gg := G) (v1 := nI c) (v3 := 1) hT' (min T.length 80 + 1) 0 (by omega) (by omega)
        refine l1.trans ?_
        have l2 := h246 (gg := G) (T := T) (c := c) hT' (by rw [G0]; exact h) (by rw [G0]; exact hc6) (m := c59 (T.take (min T.length 80))) (by
          have := c59_take T (min T.length 80)
          have := kq_le (w := g.1 0) (c := c) (nn (g.1 0 5))
          omega) (by
          rw [G0, ← hcnt]
          by_cases q : 80 ≤ min T.length 80
          · rw [if_pos q]; exact c59_take T _
          · rw [if_neg q, List.take_of_length_le (by omega)]) 13 0 (by omega) (by rw [G0]; omega)
        exact l2
      unfold bL_notes_163
      rw [if_neg (show ¬ (1 : Int32) = 0 by decide), o1, if_pos (nI_nn hm).symm]
      rcases B with ⟨q, -⟩ | q
      · rw [if_pos (by rw [e3, q])]; exact e195
      · by_cases z : nI (5 + (dl (nn (g.1 0 (104 + 8 * c + 1))) 9).length) = u1 3
        · rw [if_pos z]; exact e195
        · rw [if_neg z, if_pos q]; exact e195
    refine ⟨sX4_clear u1, ?_, hK.tr K01_clear, Pd_clear⟩
    unfold bL_notes_6
    rw [if_neg ne, if_pos e13]
    have c5 : ¬ u1 3 ≤ 5 := by rw [e3]; exact nI_ge (b := min T.length 80) (a := 5) (by omega) (by omega)
    have c80 : ¬ 80 < u1 3 := by
      rw [e3, Int32.lt_iff_toInt_lt, nI_toInt (by omega), show (80 : Int32).toInt = 80 from by decide]
      omega
    rw [if_neg c5, if_neg c80, s0, if_pos rfl, s1, if_pos (show nI (48 + c) = 48 + nI c from (nI_add 48 c).symm), s2, if_pos rfl, s3, o0, if_pos (show nI (48 + nn (g.1 0 (104 + 8 * c))) = 48 + g.1 0 (104 + 8 * c) from by
      have := nI_add 48 (nn (g.1 0 (104 + 8 * c)))
      rw [← (h.t c (by omega)).eq] at this
      exact this.symm), s4, if_pos rfl, hfin, hG]
    rfl
