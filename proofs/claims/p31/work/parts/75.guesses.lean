/-! the law's guesses -/
theorem and_pos (a : Int32) : 0 ≤ (a &&& 2147483647).toInt := by
  have h : (a &&& 2147483647).toBitVec.msb = false := by
    rw [Int32.toBitVec_and, BitVec.msb_and]
    have : (2147483647 : Int32).toBitVec.msb = false := by decide
    rw [this, Bool.and_false]
  have h2 := BitVec.msb_eq_toInt (x := (a &&& 2147483647).toBitVec)
  rw [h] at h2
  have h3 : ¬ (a &&& 2147483647).toBitVec.toInt < 0 := of_decide_eq_false h2.symm
  exact Int.not_lt.mp h3
theorem low_eq {a b : Int32} {m : Nat} (hb : sm b m) (h0 : 0 < b.toInt) (hm : m < 2 ^ 31) : ∃ r, r < nn b ∧ sL_low a b = nI r := by
  have hx := nI_nn (and_pos a)
  have hn := nn_toInt hb.1
  have hl := hb.le
  unfold sL_low
  refine ⟨nn (a &&& 2147483647) % nn b, Nat.mod_lt _ (by omega), ?_⟩
  have := pk_rem (a := nn (a &&& 2147483647)) (d := nn b) nn_b (by omega) (by omega)
  rw [← hx, ← hb.eq] at this
  exact this
theorem low_lit {a : Int32} {m : Nat} (h0 : 0 < m) (hm : m < 2 ^ 31) : ∃ r, r < m ∧ sL_low a (nI m) = nI r := by
  obtain ⟨r, h1, h2⟩ := low_eq (a := a) (b := nI m) (m := m) (sm_nI (Nat.le_refl m) hm) (by rw [nI_toInt hm]; omega) hm
  rw [nn_nI hm] at h1
  exact ⟨r, h1, h2⟩
/-- how many numbers from l to h are nearer to a than to b -/
def nr (a b l h : Int) : Int := if b ≤ a then (if a ≤ b then 0 else (if 0 < h - (if l < (a + b) / 2 + 1 then (a + b) / 2 + 1 else l) + 1 then h - (if l < (a + b) / 2 + 1 then (a + b) / 2 + 1 else l) + 1 else 0)) else (if 0 < (if (a + b - 1) / 2 < h then (a + b - 1) / 2 else h) - l + 1 then (if (a + b - 1) / 2 < h then (a + b - 1) / 2 else h) - l + 1 else 0)
theorem nr_pos {a b l h : Int} : 0 ≤ nr a b l h := by
  unfold nr
  split
  · split
    · omega
    · split <;> omega
  · split <;> omega
theorem nr_self {a l h : Int} : nr a a l h = 0 := by
  unfold nr
  rw [if_pos (Int.le_refl a), if_pos (Int.le_refl a)]
theorem nr_both {a b l h : Int} (hab : a < b) (hl : l ≤ h) : nr a b l h + nr b a l h ≤ h - l + 1 ∧ h - l + 1 - 1 ≤ nr a b l h + nr b a l h ∧ ((a + b) % 2 = 0 ∨ nr a b l h + nr b a l h = h - l + 1) := by
  unfold nr
  rw [if_neg (show ¬ b ≤ a by omega), if_pos (show a ≤ b by omega), if_neg (show ¬ b ≤ a by omega)]
  by_cases c1 : (a + b - 1) / 2 < h
  · rw [if_pos c1]
    by_cases c2 : l < (b + a) / 2 + 1
    · rw [if_pos c2]
      split <;> split <;> omega
    · rw [if_neg c2]
      split <;> split <;> omega
  · rw [if_neg c1]
    by_cases c2 : l < (b + a) / 2 + 1
    · rw [if_pos c2]
      split <;> split <;> omega
    · rw [if_neg c2]
      split <;> (try split) <;> omega
theorem div2 {x : Int32} (h : 0 ≤ x.toInt) : (x / 2).toInt = x.toInt / 2 := by
  rw [Int32.toInt_div_of_ne_right _ _ (by decide), show (2 : Int32).toInt = 2 from by decide, Int.tdiv_eq_ediv_of_nonneg h]
theorem near_eq {w : Row} {c i : Nat} {x y : Int32} (hx : sm x 999) (hy : sm y 999) (hl : sm (w (168 + 2 * (12 * c + i))) 999) (hh : sm (w (168 + 2 * (12 * c + i) + 1)) 999) :
    (sX1_numbersNearer w c i x y).toInt = nr x.toInt y.toInt (w (168 + 2 * (12 * c + i))).toInt (w (168 + 2 * (12 * c + i) + 1)).toInt := by
  have x0 := hx.1
  have x1 := hx.2
  have y0 := hy.1
  have y1 := hy.2
  have l0 := hl.1
  have l1 := hl.2
  have h0 := hh.1
  have h1 := hh.2
  unfold sX1_numbersNearer sX1_highest sX1_lowest nr
  generalize w (168 + 2 * (12 * c + i)) = L at l0 l1 ⊢
  generalize w (168 + 2 * (12 * c + i) + 1) = Hh at h0 h1 ⊢
  have z0 : (0 : Int32).toInt = 0 := by decide
  have o1 : (1 : Int32).toInt = 1 := by decide
  have es : (x + y).toInt = x.toInt + y.toInt := ta (by omega)
  have ed : ((x + y) / 2).toInt = (x.toInt + y.toInt) / 2 := by rw [div2 (by omega), es]
  have ed1 : ((x + y) / 2 + 1).toInt = (x.toInt + y.toInt) / 2 + 1 := by rw [ta (by omega), ed, o1]
  have e1 : (x + y - 1).toInt = x.toInt + y.toInt - 1 := by rw [ts (by omega), es, o1]
  by_cases c1 : y ≤ x
  · have c1' := Int32.le_iff_toInt_le.mp c1
    rw [if_pos c1, if_pos c1']
    by_cases c2 : x ≤ y
    · have c2' := Int32.le_iff_toInt_le.mp c2
      rw [if_pos c2, if_pos c2', z0]
    · have c2' : ¬ x.toInt ≤ y.toInt := fun q => c2 (Int32.le_iff_toInt_le.mpr q)
      rw [if_neg c2, if_neg c2']
      have em : (if L < (x + y) / 2 + 1 then (x + y) / 2 + 1 else L).toInt = if L.toInt < (x.toInt + y.toInt) / 2 + 1 then (x.toInt + y.toInt) / 2 + 1 else L.toInt := by
        by_cases c3 : L < (x + y) / 2 + 1
        · have c3' := Int32.lt_iff_toInt_lt.mp c3
          rw [ed1] at c3'
          rw [if_pos c3, if_pos c3', ed1]
        · have c3' : ¬ L.toInt < (x.toInt + y.toInt) / 2 + 1 := fun q => c3 (Int32.lt_iff_toInt_lt.mpr (by rw [ed1]; exact q))
          rw [if_neg c3, if_neg c3']
      have mb : 0 ≤ (if L.toInt < (x.toInt + y.toInt) / 2 + 1 then (x.toInt + y.toInt) / 2 + 1 else L.toInt) ∧ (if L.toInt < (x.toInt + y.toInt) / 2 + 1 then (x.toInt + y.toInt) / 2 + 1 else L.toInt) ≤ 1000 := by split <;> omega
      generalize (if L < (x + y) / 2 + 1 then (x + y) / 2 + 1 else L) = M at em ⊢
      rw [← em] at mb ⊢
      have eE : (Hh - M + 1).toInt = Hh.toInt - M.toInt + 1 := by
        have a : (Hh - M).toInt = Hh.toInt - M.toInt := ts (by omega)
        rw [ta (by omega), a, o1]
      by_cases c4 : 0 < Hh - M + 1
      · have c4' := Int32.lt_iff_toInt_lt.mp c4
        rw [eE, z0] at c4'
        rw [if_pos c4, if_pos c4', eE]
      · have c4' : ¬ 0 < Hh.toInt - M.toInt + 1 := fun q => c4 (Int32.lt_iff_toInt_lt.mpr (by rw [eE, z0]; exact q))
        rw [if_neg c4, if_neg c4', z0]
  · have c1' : ¬ y.toInt ≤ x.toInt := fun q => c1 (Int32.le_iff_toInt_le.mpr q)
    have ed2 : ((x + y - 1) / 2).toInt = (x.toInt + y.toInt - 1) / 2 := by rw [div2 (by omega), e1]
    rw [if_neg c1, if_neg c1']
    have em : (if (x + y - 1) / 2 < Hh then (x + y - 1) / 2 else Hh).toInt = if (x.toInt + y.toInt - 1) / 2 < Hh.toInt then (x.toInt + y.toInt - 1) / 2 else Hh.toInt := by
      by_cases c3 : (x + y - 1) / 2 < Hh
      · have c3' := Int32.lt_iff_toInt_lt.mp c3
        rw [ed2] at c3'
        rw [if_pos c3, if_pos c3', ed2]
      · have c3' : ¬ (x.toInt + y.toInt - 1) / 2 < Hh.toInt := fun q => c3 (Int32.lt_iff_toInt_lt.mpr (by rw [ed2]; exact q))
        rw [if_neg c3, if_neg c3']
    have mb : 0 ≤ (if (x.toInt + y.toInt - 1) / 2 < Hh.toInt then (x.toInt + y.toInt - 1) / 2 else Hh.toInt) ∧ (if (x.toInt + y.toInt - 1) / 2 < Hh.toInt then (x.toInt + y.toInt - 1) / 2 else Hh.toInt) ≤ 1000 := by split <;> omega
    generalize (if (x + y - 1) / 2 < Hh then (x + y - 1) / 2 else Hh) = M at em ⊢
    rw [← em] at mb ⊢
    have eE : (M - L + 1).toInt = M.toInt - L.toInt + 1 := by
      have a : (M - L).toInt = M.toInt - L.toInt := ts (by omega)
      rw [ta (by omega), a, o1]
    by_cases c4 : 0 < M - L + 1
    · have c4' := Int32.lt_iff_toInt_lt.mp c4
      rw [eE, z0] at c4'
      rw [if_pos c4, if_pos c4', eE]
    · have c4' : ¬ 0 < M.toInt - L.toInt + 1 := fun q => c4 (Int32.lt_iff_toInt_lt.mpr (by rw [eE, z0]; exact q))
      rw [if_neg c4, if_neg c4', z0]
/-- the guess that wins most often -/
theorem best_loop {g : GS} {x y z v : Int32} {c i : Nat} (hs : sm (g.1 0 (20 + 7 * i + 2)) 1000) (hN : ∀ k, k < nn (g.1 0 (20 + 7 * i + 2)) → 0 ≤ (sX1_numbersNearer (g.1 0) c i (nI k) z).toInt) : ∀ (n p bs : Nat) (mo : Int32), p ≤ nn (g.1 0 (20 + 7 * i + 2)) → nn (g.1 0 (20 + 7 * i + 2)) - p < n → bs < 1000 →
    (∀ k, k < p → (sX1_numbersNearer (g.1 0) c i (nI k) z).toInt ≤ mo.toInt) → ((mo = 0 ∧ bs = 0) ∨ (0 < mo.toInt ∧ bs < nn (g.1 0 (20 + 7 * i + 2)) ∧ sX1_numbersNearer (g.1 0) c i (nI bs) z = mo ∧ ∀ k, k < bs → (sX1_numbersNearer (g.1 0) c i (nI k) z).toInt < mo.toInt)) →
    ∃ (bs' : Nat) (mo' : Int32), bX6_bestGuess_65 g x y z v n c i (nI bs) mo p = (if v = 0 then nI bs' else mo') ∧ (∀ k, k < nn (g.1 0 (20 + 7 * i + 2)) → (sX1_numbersNearer (g.1 0) c i (nI k) z).toInt ≤ mo'.toInt) ∧ ((mo' = 0 ∧ bs' = 0) ∨ (0 < mo'.toInt ∧ bs' < nn (g.1 0 (20 + 7 * i + 2)) ∧ sX1_numbersNearer (g.1 0) c i (nI bs') z = mo' ∧ ∀ k, k < bs' → (sX1_numbersNearer (g.1 0) c i (nI k) z).toInt < mo'.toInt)) := by
  have hl := hs.le
  intro n
  induction n with
  | zero => intro p _ _ _ q; omega
  | succ n ih =>
    intro p bs mo hp hn hb h1 h2
    rw [bX6_bestGuess_65]
    have hcl := cnt_le (c := g.1 0 (20 + 7 * i + 2)) (p := p) hs (by omega)
    by_cases d : g.1 0 (20 + 7 * i + 2) ≤ nI p
    · have ep : p = nn (g.1 0 (20 + 7 * i + 2)) := by have := hcl.mp d; omega
      rw [if_pos d]
      exact ⟨bs, mo, rfl, fun k hk => h1 k (by omega), h2⟩
    · rw [if_neg d]
      have hp2 : p < nn (g.1 0 (20 + 7 * i + 2)) := by
        rcases Nat.lt_or_ge p (nn (g.1 0 (20 + 7 * i + 2))) with q | q
        · exact q
        · exact absurd (hcl.mpr q) d
      by_cases e : sX1_numbersNearer (g.1 0) c i (nI p) z ≤ mo
      · rw [if_pos e]
        rw [Int32.le_iff_toInt_le] at e
        refine ih (p + 1) bs mo (by omega) (by omega) hb (fun k hk => ?_) h2
        by_cases q : k = p
        · subst q; exact e
        · exact h1 k (by omega)
      · rw [if_neg e]
        rw [Int32.le_iff_toInt_le] at e
        have hm : 0 ≤ mo.toInt := by
          rcases h2 with ⟨q, -⟩ | ⟨q, -⟩
          · rw [q]; decide
          · omega
        refine ih (p + 1) p _ (by omega) (by omega) (by omega) (fun k hk => ?_) (Or.inr ⟨by omega, hp2, rfl, fun k hk => ?_⟩)
        · by_cases q : k = p
          · subst q; exact Int.le_refl _
          · have := h1 k (by omega); omega
        · have := h1 k hk; omega
section GU
variable {g : GS} {c i a b : Nat}
theorem isB_in {s : Int32} {a : Nat} (hs : sm s 1000) (ha : a < nn s) : ¬ sX6_isBelow (nI a) s = 0 := isB_sm (n := 1000) (sm_nI (by have := hs.le; omega) (by omega)) hs (by rw [nn_nI (by have := hs.le; omega)]; exact ha)
theorem wins_eq (h : WI (g.1 0)) (hc : c < nn (g.1 0 6)) (hi : i < nn (g.1 0 5)) (ha : a < nn (g.1 0 (20 + 7 * i + 2))) (hb : b < nn (g.1 0 (20 + 7 * i + 2))) : sX6_wins g (nI c) (nI i) (nI a) (nI b) = sX1_numbersNearer (g.1 0) c i (nI a) (nI b) := by
  have hs := (h.sz hi).1
  unfold sX6_wins
  rw [cartOf_in h.cn hc, oe_some rfl, bridgeOf_in h.cn hi, oe_some rfl, if_neg (isB_in hs ha), if_neg (isB_in hs hb)]
theorem best_eq {v : Int32} (h : WI (g.1 0)) (hc : c < nn (g.1 0 6)) (hi : i < nn (g.1 0 5)) (hb : b < nn (g.1 0 (20 + 7 * i + 2))) (hv : ¬ sX6_isBelow v 2 = 0) : sX6_bestGuess g (nI c) (nI i) (nI b) v = bX6_bestGuess_65 g (nI c) (nI i) (nI b) v (nn (g.1 0 (20 + 7 * i + 2)) + 1) c i (nI 0) 0 0 := by
  have hs := (h.sz hi).1
  unfold sX6_bestGuess
  rw [cartOf_in h.cn hc, oe_some rfl, bridgeOf_in h.cn hi, oe_some rfl, if_neg (isB_in hs hb), if_neg hv]
  rfl
end GU
