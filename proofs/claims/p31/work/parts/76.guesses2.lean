/-! the law's guesses: true -/
section G6
variable {g : GS} {v1 v2 v5 v6 v8 v10 v11 : Int32}
theorem g252 (h : v8.toInt < v11.toInt ∨ v10.toInt ≤ v5.toInt) : bL_guesses_252 g v5 v8 v10 v11 = 1 := by
  unfold bL_guesses_252
  by_cases q : v8 < v11
  · rw [if_pos q]
  · rw [if_neg q]
    rw [Int32.lt_iff_toInt_lt] at q
    rw [if_neg (by rw [Int32.lt_iff_toInt_lt]; omega)]
theorem g206 (h1 : v8.toInt ≤ v11.toInt) (h2 : v11 = 0 ∨ (sX6_wins g v1 v2 v10 v6 = v11 ∧ ¬ v10 = v6)) (h3 : v8.toInt < v11.toInt ∨ v10.toInt ≤ v5.toInt) : bL_guesses_206 g v1 v2 v5 v6 v8 v10 v11 = 1 := by
  unfold bL_guesses_206
  rw [if_neg (by rw [Int32.lt_iff_toInt_lt]; omega)]
  by_cases q : v11 = 0
  · rw [if_pos q]; exact g252 h3
  · rw [if_neg q]
    obtain ⟨a, b⟩ := h2.resolve_left q
    rw [if_pos a, if_neg b]; exact g252 h3
theorem guesses_ok {c i : Nat} {x : Int32} (h : WI (g.1 0)) (hc : c < 2 ^ 31) (hi : i < 2 ^ 31) : sL_guesses g (nI c) (nI i) x = 1 := by
  have n6 := h.a.n6
  have n5 := h.a.n5
  have z0 : (0 : Int32).toInt = 0 := by decide
  have c2 := cnt_le (c := g.1 0 6) (p := c) h.cn.2.2 hc
  have out : ¬ c < nn (g.1 0 6) ∨ ¬ i < nn (g.1 0 5) → bL_guesses_18 g (nI c) (nI i) = 1 := fun q => by
    unfold bL_guesses_18 sX6_wins sX6_bestGuess
    rcases q with q | q
    · rw [cartOf_out h.cn (by omega) hc, oe_none rfl, oe_none rfl]
      cases sX5_bridgeOf (g.1 0) (nI i) <;> rfl
    · have e : sX5_bridgeOf (g.1 0) (nI i) = none := by
        unfold sX5_bridgeOf
        rw [if_pos (Decidable.byContradiction fun z => by
          have := isB_iff.mp z
          rw [nI_toInt hi, ← nn_toInt h.cn.2.1.1] at this
          omega)]
      rw [e]
      cases sX5_cartOf (g.1 0) (nI c) <;> rfl
  unfold sL_guesses
  rw [ct_2, ct_1]
  by_cases hc6 : c < nn (g.1 0 6)
  · rw [if_neg (fun q => by have := c2.mp q; omega)]
    by_cases hi5 : i < nn (g.1 0 5)
    · rw [if_pos (by rw [Int32.lt_iff_toInt_lt, nI_toInt hi, ← nn_toInt h.cn.2.1.1]; omega)]
      have hs := h.sz hi5
      have hsl := hs.1.le
      rw [ofB_2 h.cn hi5, kn_0 h.cn hc6 hi5, kn_1 h.cn hc6 hi5]
      obtain ⟨a, ha, ea⟩ := low_eq (a := x) hs.1 (by omega) (by omega)
      obtain ⟨b, hb, eb⟩ := low_eq (a := x >>> (4 &&& 31)) hs.1 (by omega) (by omega)
      rw [ea, eb, wins_eq h hc6 hi5 ha hb, wins_eq h hc6 hi5 hb ha, best_eq h hc6 hi5 hb (by decide), best_eq h hc6 hi5 hb (by decide)]
      obtain ⟨r1, r2, r3, r4⟩ := h.r c i (by omega) (by omega) hi5
      have hs2 := hs.1.2
      have sl : sm ((g.1 0) (168 + 2 * (12 * c + i))) 999 := ⟨r1, by omega⟩
      have sh : sm ((g.1 0) (168 + 2 * (12 * c + i) + 1)) 999 := ⟨by omega, by omega⟩
      have NE : ∀ k, k < nn (g.1 0 (20 + 7 * i + 2)) → (sX1_numbersNearer (g.1 0) c i (nI k) (nI b)).toInt = nr k b ((g.1 0) (168 + 2 * (12 * c + i))).toInt ((g.1 0) (168 + 2 * (12 * c + i) + 1)).toInt := fun k hk => by
        rw [near_eq (sm_nI (by omega) (by omega)) (sm_nI (by omega) (by omega)) sl sh, nI_toInt (by omega), nI_toInt (by omega)]
      have NE2 : (sX1_numbersNearer (g.1 0) c i (nI b) (nI a)).toInt = nr b a ((g.1 0) (168 + 2 * (12 * c + i))).toInt ((g.1 0) (168 + 2 * (12 * c + i) + 1)).toInt := by
        rw [near_eq (sm_nI (by omega) (by omega)) (sm_nI (by omega) (by omega)) sl sh, nI_toInt (by omega), nI_toInt (by omega)]
      have N0 : ∀ k, k < nn (g.1 0 (20 + 7 * i + 2)) → 0 ≤ (sX1_numbersNearer (g.1 0) c i (nI k) (nI b)).toInt := fun k hk => by
        rw [NE k hk]; exact nr_pos
      obtain ⟨bs, mo, eB, hmax, hbst⟩ := best_loop (g := g) (x := nI c) (y := nI i) (z := nI b) (v := 0) (c := c) (i := i) hs.1 N0 (nn (g.1 0 (20 + 7 * i + 2)) + 1) 0 0 0 (by omega) (by omega) (by omega) (fun k hk => by omega) (Or.inl ⟨rfl, rfl⟩)
      obtain ⟨bs', mo', eM, hmax', hbst'⟩ := best_loop (g := g) (x := nI c) (y := nI i) (z := nI b) (v := 1) (c := c) (i := i) hs.1 N0 (nn (g.1 0 (20 + 7 * i + 2)) + 1) 0 0 0 (by omega) (by omega) (by omega) (fun k hk => by omega) (Or.inl ⟨rfl, rfl⟩)
      rw [if_pos rfl] at eB
      rw [if_neg (show ¬ (1 : Int32) = 0 by decide)] at eM
      rw [eB, eM]
      -- both runs tell of the same guess
      have same : mo = mo' ∧ bs = bs' := by
        rcases hbst with ⟨q1, q2⟩ | ⟨q1, q2, q3, q4⟩ <;> rcases hbst' with ⟨p1, p2⟩ | ⟨p1, p2, p3, p4⟩
        · exact ⟨by rw [q1, p1], by omega⟩
        · have := hmax bs' p2
          rw [p3, q1, z0] at this
          omega
        · have := hmax' bs q2
          rw [q3, p1, z0] at this
          omega
        · have a1 := hmax bs' p2
          have a2 := hmax' bs q2
          rw [p3] at a1
          rw [q3] at a2
          have em : mo.toInt = mo'.toInt := by omega
          refine ⟨Int32.toInt_inj.mp em, ?_⟩
          rcases Nat.lt_trichotomy bs bs' with z | z | z
          · have := p4 bs z
            rw [q3] at this
            omega
          · exact z
          · have := q4 bs' z
            rw [p3] at this
            omega
      obtain ⟨rfl, rfl⟩ := same
      have hwm := hmax a ha
      have ea' := NE a ha
      have bsz : bs < 2 ^ 31 := by
        rcases hbst with ⟨-, q⟩ | ⟨-, q, -⟩ <;> omega
      -- what is asked at the end
      have e2 : mo = 0 ∨ (sX6_wins g (nI c) (nI i) (nI bs) (nI b) = mo ∧ ¬ nI bs = nI b) := by
        rcases hbst with ⟨q1, q2⟩ | ⟨q1, q2, q3, q4⟩
        · exact Or.inl q1
        · refine Or.inr ⟨by rw [wins_eq h hc6 hi5 q2 hb]; exact q3, fun z => ?_⟩
          have e : bs = b := (nI_eq bsz (by omega)).mp z
          subst e
          have := NE bs q2
          rw [q3, nr_self] at this
          omega
      have e3 : (sX1_numbersNearer (g.1 0) c i (nI a) (nI b)).toInt < mo.toInt ∨ (nI bs).toInt ≤ (nI a).toInt := by
        rw [nI_toInt bsz, nI_toInt (by omega)]
        rcases hbst with ⟨q1, q2⟩ | ⟨q1, q2, q3, q4⟩
        · exact Or.inr (by omega)
        · rcases Nat.lt_or_ge a bs with z | z
          · exact Or.inl (q4 a z)
          · exact Or.inr (by omega)
      unfold bL_guesses_139
      by_cases hab : nI a = nI b
      · have e : a = b := (nI_eq (by omega) (by omega)).mp hab
        subst e
        rw [nr_self] at ea'
        have w0 : sX1_numbersNearer (g.1 0) c i (nI a) (nI a) = 0 := Int32.toInt_inj.mp (ea'.trans z0.symm)
        rw [w0] at hwm e3
        rw [w0, if_pos rfl, if_pos rfl, if_pos rfl, if_neg (by rw [Int32.lt_iff_toInt_lt]; omega)]
        by_cases q : mo = 0
        · rw [if_pos q]; exact g252 e3
        · obtain ⟨p1, p2⟩ := e2.resolve_left q
          rw [if_neg q, if_pos p1, if_neg p2]; exact g252 e3
      · rw [if_neg hab]
        have hne : ¬ a = b := fun q => hab (by rw [q])
        have both : nr a b ((g.1 0) (168 + 2 * (12 * c + i))).toInt ((g.1 0) (168 + 2 * (12 * c + i) + 1)).toInt + nr b a ((g.1 0) (168 + 2 * (12 * c + i))).toInt ((g.1 0) (168 + 2 * (12 * c + i) + 1)).toInt ≤ ((g.1 0) (168 + 2 * (12 * c + i) + 1)).toInt - ((g.1 0) (168 + 2 * (12 * c + i))).toInt + 1 ∧
            ((g.1 0) (168 + 2 * (12 * c + i) + 1)).toInt - ((g.1 0) (168 + 2 * (12 * c + i))).toInt + 1 - 1 ≤ nr a b ((g.1 0) (168 + 2 * (12 * c + i))).toInt ((g.1 0) (168 + 2 * (12 * c + i) + 1)).toInt + nr b a ((g.1 0) (168 + 2 * (12 * c + i))).toInt ((g.1 0) (168 + 2 * (12 * c + i) + 1)).toInt ∧
            (((a : Int) + b) % 2 = 0 ∨ nr a b ((g.1 0) (168 + 2 * (12 * c + i))).toInt ((g.1 0) (168 + 2 * (12 * c + i) + 1)).toInt + nr b a ((g.1 0) (168 + 2 * (12 * c + i))).toInt ((g.1 0) (168 + 2 * (12 * c + i) + 1)).toInt = ((g.1 0) (168 + 2 * (12 * c + i) + 1)).toInt - ((g.1 0) (168 + 2 * (12 * c + i))).toInt + 1) := by
          rcases Nat.lt_or_gt_of_ne hne with q | q
          · exact nr_both (by omega) (by omega)
          · have := nr_both (a := b) (b := a) (l := ((g.1 0) (168 + 2 * (12 * c + i))).toInt) (h := ((g.1 0) (168 + 2 * (12 * c + i) + 1)).toInt) (by omega) (by omega)
            obtain ⟨t1, t2, t3⟩ := this
            refine ⟨by omega, by omega, ?_⟩
            rcases t3 with t3 | t3
            · exact Or.inl (by omega)
            · exact Or.inr (by omega)
        have pa := nr_pos (a := a) (b := b) (l := ((g.1 0) (168 + 2 * (12 * c + i))).toInt) (h := ((g.1 0) (168 + 2 * (12 * c + i) + 1)).toInt)
        have pb := nr_pos (a := b) (b := a) (l := ((g.1 0) (168 + 2 * (12 * c + i))).toInt) (h := ((g.1 0) (168 + 2 * (12 * c + i) + 1)).toInt)
        have eall : ((g.1 0) (168 + 2 * (12 * c + i) + 1) - (g.1 0) (168 + 2 * (12 * c + i)) + 1).toInt = ((g.1 0) (168 + 2 * (12 * c + i) + 1)).toInt - ((g.1 0) (168 + 2 * (12 * c + i))).toInt + 1 := by
          have e : ((g.1 0) (168 + 2 * (12 * c + i) + 1) - (g.1 0) (168 + 2 * (12 * c + i))).toInt = _ := ts (by omega)
          rw [inc_toInt (n := 1000) (by omega) (by omega), e]
        have emin : ((g.1 0) (168 + 2 * (12 * c + i) + 1) - (g.1 0) (168 + 2 * (12 * c + i)) + 1 - 1).toInt = ((g.1 0) (168 + 2 * (12 * c + i) + 1)).toInt - ((g.1 0) (168 + 2 * (12 * c + i))).toInt + 1 - 1 := by
          rw [ts (by rw [eall, show (1 : Int32).toInt = 1 from by decide]; omega), eall, show (1 : Int32).toInt = 1 from by decide]
        have esum : (sX1_numbersNearer (g.1 0) c i (nI a) (nI b) + sX1_numbersNearer (g.1 0) c i (nI b) (nI a)).toInt = nr a b ((g.1 0) (168 + 2 * (12 * c + i))).toInt ((g.1 0) (168 + 2 * (12 * c + i) + 1)).toInt + nr b a ((g.1 0) (168 + 2 * (12 * c + i))).toInt ((g.1 0) (168 + 2 * (12 * c + i) + 1)).toInt := by
          rw [ta (by rw [ea', NE2]; omega), ea', NE2]
        rw [if_neg (by rw [Int32.lt_iff_toInt_lt, eall, esum]; omega), if_neg (by rw [Int32.lt_iff_toInt_lt, emin, esum]; omega)]
        have epar : (nI a + nI b) - (nI a + nI b) / 2 * 2 = nI ((a + b) % 2) := by
          rw [nI_add]
          exact pk_rem (a := a + b) (d := 2) (by omega) (by omega) (by omega)
        have fin := g206 (g := g) (v1 := nI c) (v2 := nI i) (v5 := nI a) (v6 := nI b) (v8 := sX1_numbersNearer (g.1 0) c i (nI a) (nI b)) (v10 := nI bs) (v11 := mo) hwm e2 e3
        by_cases q : (nI a + nI b) - (nI a + nI b) / 2 * 2 = 0
        · rw [if_pos q]; exact fin
        · rw [if_neg q]
          have hodd : ¬ ((a : Int) + b) % 2 = 0 := fun z => q (by
            rw [epar, show (a + b) % 2 = 0 by omega]; rfl)
          rw [if_pos (Int32.toInt_inj.mp (by rw [esum, eall]; exact both.2.2.resolve_left hodd))]; exact fin
    · rw [if_neg (by rw [Int32.lt_iff_toInt_lt, nI_toInt hi, ← nn_toInt h.cn.2.1.1]; omega)]
      exact out (Or.inr hi5)
  · rw [if_pos (c2.mpr (by omega))]
    exact out (Or.inl hc6)
end G6
