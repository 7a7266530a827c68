/-! numbers that are nearer, counted and reckoned -/
def Fz (hi z v k : Int) : Int := if z = v then 0 else if v < z then (if (z + v) / 2 + 1 ≤ k then (if k ≤ hi then hi - k + 1 else 0) else (if (z + v) / 2 + 1 ≤ hi then hi - (z + v) / 2 else 0)) else (if (z + v - 1) / 2 < hi then (if k ≤ (z + v - 1) / 2 then (z + v - 1) / 2 - k + 1 else 0) else (if k ≤ hi then hi - k + 1 else 0))
theorem Fz_b {hi z v k : Int} (hk : 0 ≤ k) (hh : hi ≤ 999) : 0 ≤ Fz hi z v k ∧ (k ≤ hi + 1 → Fz hi z v k ≤ hi - k + 1) := by
  unfold Fz
  by_cases c1 : z = v
  · rw [if_pos c1]; exact ⟨by omega, fun _ => by omega⟩
  rw [if_neg c1]
  by_cases c2 : v < z
  · rw [if_pos c2]
    by_cases c3 : (z + v) / 2 + 1 ≤ k
    · rw [if_pos c3]
      by_cases c4 : k ≤ hi
      · rw [if_pos c4]; omega
      · rw [if_neg c4]; omega
    · rw [if_neg c3]
      by_cases c4 : (z + v) / 2 + 1 ≤ hi
      · rw [if_pos c4]; omega
      · rw [if_neg c4]; omega
  · rw [if_neg c2]
    by_cases c3 : (z + v - 1) / 2 < hi
    · rw [if_pos c3]
      by_cases c4 : k ≤ (z + v - 1) / 2
      · rw [if_pos c4]; omega
      · rw [if_neg c4]; omega
    · rw [if_neg c3]
      by_cases c4 : k ≤ hi
      · rw [if_pos c4]; omega
      · rw [if_neg c4]; omega
def near (z v k : Int) : Prop := (v < z ∧ z + v < 2 * k) ∨ (z < v ∧ 2 * k < z + v)
theorem Fz_s {hi z v k : Int} (hk : k ≤ hi) : (near z v k → Fz hi z v k = 1 + Fz hi z v (k + 1)) ∧ (¬ near z v k → Fz hi z v k = Fz hi z v (k + 1)) := by
  unfold near Fz
  by_cases c1 : z = v
  · rw [if_pos c1, if_pos c1]; exact ⟨fun q => by omega, fun _ => rfl⟩
  rw [if_neg c1, if_neg c1]
  by_cases c2 : v < z
  · rw [if_pos c2, if_pos c2]
    by_cases c3 : (z + v) / 2 + 1 ≤ k
    · rw [if_pos c3, if_pos (show (z + v) / 2 + 1 ≤ k + 1 by omega), if_pos hk]
      by_cases c4 : k + 1 ≤ hi
      · rw [if_pos c4]; exact ⟨fun _ => by omega, fun q => by omega⟩
      · rw [if_neg c4]; exact ⟨fun _ => by omega, fun q => by omega⟩
    · rw [if_neg c3]
      by_cases c5 : (z + v) / 2 + 1 ≤ k + 1
      · rw [if_pos c5]
        by_cases c4 : (z + v) / 2 + 1 ≤ hi
        · rw [if_pos c4, if_pos (show k + 1 ≤ hi by omega)]; exact ⟨fun q => by omega, fun _ => by omega⟩
        · rw [if_neg c4, if_neg (show ¬ k + 1 ≤ hi by omega)]; exact ⟨fun q => by omega, fun _ => rfl⟩
      · rw [if_neg c5]; exact ⟨fun q => by omega, fun _ => rfl⟩
  · rw [if_neg c2, if_neg c2]
    by_cases c3 : (z + v - 1) / 2 < hi
    · rw [if_pos c3, if_pos c3]
      by_cases c4 : k + 1 ≤ (z + v - 1) / 2
      · rw [if_pos (show k ≤ (z + v - 1) / 2 by omega), if_pos c4]; exact ⟨fun _ => by omega, fun q => by omega⟩
      · rw [if_neg c4]
        by_cases c5 : k ≤ (z + v - 1) / 2
        · rw [if_pos c5]; exact ⟨fun _ => by omega, fun q => by omega⟩
        · rw [if_neg c5]; exact ⟨fun q => by omega, fun _ => rfl⟩
    · rw [if_neg c3, if_neg c3, if_pos hk]
      by_cases c4 : k + 1 ≤ hi
      · rw [if_pos c4]; exact ⟨fun _ => by omega, fun q => by omega⟩
      · rw [if_neg c4]; exact ⟨fun _ => by omega, fun q => by omega⟩
theorem Fz_0 {hi z v k : Int} (hk : hi < k) : Fz hi z v k = 0 := by
  unfold Fz
  by_cases c1 : z = v
  · rw [if_pos c1]
  rw [if_neg c1]
  by_cases c2 : v < z
  · rw [if_pos c2, if_neg (show ¬ k ≤ hi by omega)]
    by_cases c3 : (z + v) / 2 + 1 ≤ k
    · rw [if_pos c3]
    · rw [if_neg c3, if_neg (by omega)]
  · rw [if_neg c2, if_neg (show ¬ k ≤ hi by omega)]
    by_cases c3 : (z + v - 1) / 2 < hi
    · rw [if_pos c3, if_neg (by omega)]
    · rw [if_neg c3]
theorem size_t {X : Int32} (h : -2000 ≤ X.toInt) : (sX7_size X).toInt = if 0 ≤ X.toInt then X.toInt else - X.toInt := by
  unfold sX7_size
  have e0 : (0 : Int32).toInt = 0 := by decide
  have hb := X.toInt_lt
  by_cases c : 0 ≤ X
  · rw [if_pos c, if_pos (by rw [Int32.le_iff_toInt_le, e0] at c; exact c)]
  · rw [if_neg c, if_neg (by rw [Int32.le_iff_toInt_le, e0] at c; exact c), ← Int32.zero_sub, ts (by omega), e0]; omega
theorem near7 {lo hi z v : Int32} (h0 : 0 ≤ lo.toInt) (h1 : hi.toInt ≤ 999) (hlo : lo.toInt ≤ 1000) (hz : sm z 999) (hv : sm v 999) : (sX7_nearer lo hi z v).toInt = Fz hi.toInt z.toInt v.toInt lo.toInt := by
  have o1 : (1 : Int32).toInt = 1 := by decide
  have z0 := hz.1
  have z1 := hz.2
  have v0 := hv.1
  have v1 := hv.2
  have key : ∀ (n : Nat) (a k : Int32), 0 ≤ k.toInt → k.toInt ≤ 1000 → 0 ≤ a.toInt → a.toInt ≤ 1000 + k.toInt → (hi.toInt - k.toInt + 1).toNat < n → (bX7_nearer_6 lo hi z v n a k).toInt = a.toInt + Fz hi.toInt z.toInt v.toInt k.toInt := by
    intro n
    induction n with
    | zero => intro a k _ _ _ _ h; omega
    | succ n ih =>
      intro a k k0 k1 a0 a1 hn
      rw [bX7_nearer_6]
      by_cases c : hi < k
      · rw [if_pos c]
        rw [Int32.lt_iff_toInt_lt] at c
        rw [Fz_0 c]; omega
      · rw [if_neg c]
        rw [Int32.lt_iff_toInt_lt] at c
        have kk := inc_toInt (x := k) (by omega)
        have dz := ts (a := k) (b := z) (by omega)
        have dv := ts (a := k) (b := v) (by omega)
        have sz := size_t (X := k - z) (by omega)
        have sv := size_t (X := k - v) (by omega)
        have S := Fz_s (hi := hi.toInt) (z := z.toInt) (v := v.toInt) (k := k.toInt) (by omega)
        have N : sX7_size (k - v) ≤ sX7_size (k - z) ↔ ¬ near z.toInt v.toInt k.toInt := by
          rw [Int32.le_iff_toInt_le, sz, sv, dz, dv]
          unfold near
          by_cases p : 0 ≤ k.toInt - z.toInt
          · rw [if_pos p]
            by_cases q : 0 ≤ k.toInt - v.toInt
            · rw [if_pos q]; omega
            · rw [if_neg q]; omega
          · rw [if_neg p]
            by_cases q : 0 ≤ k.toInt - v.toInt
            · rw [if_pos q]; omega
            · rw [if_neg q]; omega
        by_cases d : sX7_size (k - v) ≤ sX7_size (k - z)
        · rw [if_pos d, show a + 0 = a from Int32.add_zero _, ih a (k + 1) (by omega) (by omega) a0 (by omega) (by omega), kk, S.2 (N.mp d)]
        · have e1 := ta (a := a) (b := 1) (by rw [o1]; omega)
          rw [o1] at e1
          rw [if_neg d, ih (a + 1) (k + 1) (by omega) (by omega) (by omega) (by omega) (by omega), kk, e1, S.1 (Classical.byContradiction fun q => d (N.mpr q))]
          omega
  have := key 1001 0 lo h0 hlo (by decide) (by rw [show (0 : Int32).toInt = 0 from by decide]; omega) (by omega)
  rw [show (0 : Int32).toInt = 0 from by decide] at this
  unfold sX7_nearer
  rw [this]; omega
theorem half {a : Int32} (h : 0 ≤ a.toInt) : (a / 2).toInt = a.toInt / 2 := by
  have e : (2 : Int32).toInt = 2 := by decide
  rw [Int32.toInt_div_of_ne_right _ _ (by decide), e, Int.tdiv_eq_ediv_of_nonneg h]
theorem near5 {w : Row} {c i : Nat} {z v : Int32} (h0 : 0 ≤ (w (168 + 2 * (12 * c + i))).toInt) (h1 : (w (168 + 2 * (12 * c + i) + 1)).toInt ≤ 999) (hlh : (w (168 + 2 * (12 * c + i))).toInt ≤ (w (168 + 2 * (12 * c + i) + 1)).toInt) (hz : sm z 999) (hv : sm v 999) :
    (sX1_numbersNearer w c i z v).toInt = Fz (w (168 + 2 * (12 * c + i) + 1)).toInt z.toInt v.toInt (w (168 + 2 * (12 * c + i))).toInt := by
  unfold sX1_numbersNearer sX1_highest sX1_lowest
  generalize w (168 + 2 * (12 * c + i)) = lo at *
  generalize w (168 + 2 * (12 * c + i) + 1) = hi at *
  have z0 := hz.1
  have z1 := hz.2
  have v0 := hv.1
  have v1 := hv.2
  have o1 : (1 : Int32).toInt = 1 := by decide
  have o0 : (0 : Int32).toInt = 0 := by decide
  have s := ta (a := z) (b := v) (by omega)
  have m := half (a := z + v) (by omega)
  have m1 := ta (a := (z + v) / 2) (b := 1) (by rw [o1]; omega)
  rw [m, o1, s] at m1
  unfold Fz
  by_cases c1 : v ≤ z
  · rw [if_pos c1]
    rw [Int32.le_iff_toInt_le] at c1
    by_cases c2 : z ≤ v
    · rw [if_pos c2]
      rw [Int32.le_iff_toInt_le] at c2
      rw [if_pos (show z.toInt = v.toInt by omega)]; exact o0
    · rw [if_neg c2]
      rw [Int32.le_iff_toInt_le] at c2
      rw [if_neg (show ¬ z.toInt = v.toInt by omega), if_pos (show v.toInt < z.toInt by omega)]
      by_cases c3 : lo < (z + v) / 2 + 1
      · rw [if_pos c3]
        rw [Int32.lt_iff_toInt_lt] at c3
        have d := ts (a := hi) (b := (z + v) / 2 + 1) (by omega)
        have d1 := ta (a := hi - ((z + v) / 2 + 1)) (b := 1) (by rw [o1]; omega)
        rw [o1] at d1
        rw [if_neg (show ¬ (z.toInt + v.toInt) / 2 + 1 ≤ lo.toInt by omega)]
        by_cases c4 : 0 < hi - ((z + v) / 2 + 1) + 1
        · have c4' := c4
          rw [Int32.lt_iff_toInt_lt] at c4'
          rw [if_pos c4, d1, if_pos (show (z.toInt + v.toInt) / 2 + 1 ≤ hi.toInt by omega)]; omega
        · have c4' := c4
          rw [Int32.lt_iff_toInt_lt] at c4'
          rw [if_neg c4, if_neg (show ¬ (z.toInt + v.toInt) / 2 + 1 ≤ hi.toInt by omega)]; exact o0
      · rw [if_neg c3]
        rw [Int32.lt_iff_toInt_lt] at c3
        have d := ts (a := hi) (b := lo) (by omega)
        have d1 := ta (a := hi - lo) (b := 1) (by rw [o1]; omega)
        rw [o1] at d1
        rw [if_pos (show (z.toInt + v.toInt) / 2 + 1 ≤ lo.toInt by omega), if_pos (show 0 < hi - lo + 1 by rw [Int32.lt_iff_toInt_lt]; omega), if_pos (show lo.toInt ≤ hi.toInt by omega)]; omega
  · rw [if_neg c1]
    rw [Int32.le_iff_toInt_le] at c1
    have p := ts (a := z + v) (b := 1) (by rw [o1]; omega)
    rw [o1] at p
    have mm := half (a := (z + v) - 1) (by omega)
    rw [if_neg (show ¬ z.toInt = v.toInt by omega), if_neg (show ¬ v.toInt < z.toInt by omega)]
    by_cases c3 : ((z + v) - 1) / 2 < hi
    · rw [if_pos c3]
      rw [Int32.lt_iff_toInt_lt] at c3
      have d := ts (a := ((z + v) - 1) / 2) (b := lo) (by omega)
      have d1 := ta (a := ((z + v) - 1) / 2 - lo) (b := 1) (by rw [o1]; omega)
      rw [o1] at d1
      rw [if_pos (show (z.toInt + v.toInt - 1) / 2 < hi.toInt by omega)]
      by_cases c4 : 0 < ((z + v) - 1) / 2 - lo + 1
      · have c4' := c4
        rw [Int32.lt_iff_toInt_lt] at c4'
        rw [if_pos c4, d1, if_pos (show lo.toInt ≤ (z.toInt + v.toInt - 1) / 2 by omega)]; omega
      · have c4' := c4
        rw [Int32.lt_iff_toInt_lt] at c4'
        rw [if_neg c4, if_neg (show ¬ lo.toInt ≤ (z.toInt + v.toInt - 1) / 2 by omega)]; exact o0
    · rw [if_neg c3]
      rw [Int32.lt_iff_toInt_lt] at c3
      have d := ts (a := hi) (b := lo) (by omega)
      have d1 := ta (a := hi - lo) (b := 1) (by rw [o1]; omega)
      rw [o1] at d1
      rw [if_neg (show ¬ (z.toInt + v.toInt - 1) / 2 < hi.toInt by omega), if_pos (show 0 < hi - lo + 1 by rw [Int32.lt_iff_toInt_lt]; omega), if_pos (show lo.toInt ≤ hi.toInt by omega)]; omega
theorem near_rel {w r : Row} {c i : Nat} {z v : Int32} (hI : Inv r) (h : Rel w r) (hc : c < 8) (hi : i < nn (r 5)) (hz : sm z 999) (hv : sm v 999) : sX1_numbersNearer w c i z v = sX7_nearer (r (168 + 2 * (12 * c + i))) (r (168 + 2 * (12 * c + i) + 1)) z v ∧ 0 ≤ (sX7_nearer (r (168 + 2 * (12 * c + i))) (r (168 + 2 * (12 * c + i) + 1)) z v).toInt := by
  have h5 := hI.1.1.2.1.le
  have e0 : w (168 + 2 * (12 * c + i)) = r (168 + 2 * (12 * c + i)) := h.g (by omega) (by omega)
  have e1 : w (168 + 2 * (12 * c + i) + 1) = r (168 + 2 * (12 * c + i) + 1) := h.g (by omega) (by omega)
  obtain ⟨r0, r1, r2⟩ := hI.2.2.2.2.1 c i hc (by omega) hi
  have hs := (hI.1.2.2.1 i (by omega)).2.2.2
  have a := near5 (w := w) (c := c) (i := i) (z := z) (v := v) (by rw [e0]; omega) (by rw [e1]; omega) (by rw [e0, e1]; omega) hz hv
  have b := near7 (lo := r (168 + 2 * (12 * c + i))) (hi := r (168 + 2 * (12 * c + i) + 1)) (z := z) (v := v) r0 (by omega) (by omega) hz hv
  rw [e0, e1] at a
  refine ⟨Int32.toInt_inj.mp (a.trans b.symm), ?_⟩
  rw [b]
  exact (Fz_b r0 (by omega)).1
section NR
variable {g : GS} {x y z v : Int32}
theorem num_of {r : Row} {i : Nat} (hr : Rn r) (hi : i < 12) (h : ¬ sX7_isNumber r i z = 0) : sm z 999 ∧ nn z < nn (r (20 + 7 * i + 2)) := by
  have hs := (hr.2.2.1 i hi).2.2
  have := (in_cnt hs).mp h
  have h2 := hs.2
  exact ⟨sm_i this.1 (by omega), by have := nn_toInt this.1; have := nn_toInt hs.1; omega⟩
theorem num_iff {w r : Row} {i : Nat} (hr : Rn r) (hi : i < 12) (h : Rel w r) : sX6_isBelow z (w (20 + 7 * i + 2)) = 0 ↔ sX7_isNumber r i z = 0 := by
  rw [← Decidable.not_iff_not, isB_iff, h.b (j := 20 + 7 * i + 2) (by omega) (by omega)]
  exact (in_cnt (hr.2.2.1 i hi).2.2).symm
theorem wins_rel (h : RG g) : sX6_wins g x y z v = sX7_wins (g.2.2.1 0) x y z v := by
  have hI := h.2.1.1 0 (by omega)
  have hR := h.2.2.1
  have hr := hI.1
  unfold sX6_wins sX7_wins
  rw [cartOf_E hr.1 hR, bridgeOf_E hr.1 hR]
  by_cases t1 : sX7_isCart (g.2.2.1 0) x = 0
  · rw [if_pos t1, if_pos t1, oe_none rfl]
    by_cases t2 : sX7_isBridge (g.2.2.1 0) y = 0
    · rw [if_pos t2, oe_none rfl]
    · rw [if_neg t2, oe_some rfl]
  rw [if_neg t1, if_neg t1, oe_some rfl]
  by_cases t2 : sX7_isBridge (g.2.2.1 0) y = 0
  · rw [if_pos t2, if_pos t2, oe_none rfl]
  rw [if_neg t2, if_neg t2, oe_some rfl]
  have hC := isCart_of hr.1 t1
  have hB := isBridge_of hr.1 t2
  by_cases t3 : sX7_isNumber (g.2.2.1 0) (nn y) z = 0
  · rw [if_pos t3, if_pos ((num_iff hr hB.2.2 hR).mpr t3)]
  rw [if_neg t3, if_neg (fun q => t3 ((num_iff hr hB.2.2 hR).mp q))]
  by_cases t4 : sX7_isNumber (g.2.2.1 0) (nn y) v = 0
  · rw [if_pos t4, if_pos ((num_iff hr hB.2.2 hR).mpr t4)]
  rw [if_neg t4, if_neg (fun q => t4 ((num_iff hr hB.2.2 hR).mp q))]
  exact (near_rel hI hR hC.2.2 hB.2.1 (num_of hr hB.2.2 t3).1 (num_of hr hB.2.2 t4).1).1
theorem best_loop {i q : Nat} (h : RG g) (hq : q < 8) (hi : i < nn (g.2.2.1 0 5)) (hz : sm z 999) : ∀ (n m : Nat) (be mo : Int32) (p : Nat), p ≤ nn (g.2.2.1 0 (20 + 7 * i + 2)) → nn (g.2.2.1 0 (20 + 7 * i + 2)) - p < n → nn (g.2.2.1 0 (20 + 7 * i + 2)) - p < m → bX6_bestGuess_65 g x y z v n q i be mo p = bX7_bestGuess_78 (g.2.2.1 0) x y z v m i q be mo p := by
  have hI := h.2.1.1 0 (by omega)
  have hR := h.2.2.1
  have hr := hI.1
  have h5 := hr.1.2.1.le
  have hs := (hr.2.2.1 i (by omega)).2.2
  have hsl := hs.le
  have es : g.1 0 (20 + 7 * i + 2) = g.2.2.1 0 (20 + 7 * i + 2) := hR.b (by omega) (by omega)
  intro n
  induction n with
  | zero => intro m be mo p _ h; omega
  | succ n ih =>
    intro m be mo p hp hn hm
    cases m with
    | zero => omega
    | succ m =>
      rw [bX6_bestGuess_65, bX7_bestGuess_78, es]
      have hc := cnt_le (c := g.2.2.1 0 (20 + 7 * i + 2)) (p := p) hs (by omega)
      by_cases c : g.2.2.1 0 (20 + 7 * i + 2) ≤ nI p
      · rw [if_pos c, if_pos c]
      · rw [if_neg c, if_neg c]
        have hpl := (not_congr hc).mp c
        rw [(near_rel hI hR hq hi (sm_nI (j := p) (n := 999) (by omega) (by omega)) hz).1]
        by_cases d : sX7_nearer (g.2.2.1 0 (168 + 2 * (12 * q + i))) (g.2.2.1 0 (168 + 2 * (12 * q + i) + 1)) (nI p) z ≤ mo
        · rw [if_pos d, if_pos d, if_pos d]; exact ih _ _ _ _ (by omega) (by omega) (by omega)
        · rw [if_neg d, if_neg d, if_neg d]; exact ih _ _ _ _ (by omega) (by omega) (by omega)
theorem best_rel (h : RG g) : sX6_bestGuess g x y z v = sX7_bestGuess (g.2.2.1 0) x y z v := by
  have hI := h.2.1.1 0 (by omega)
  have hR := h.2.2.1
  have hr := hI.1
  unfold sX6_bestGuess sX7_bestGuess
  rw [cartOf_E hr.1 hR, bridgeOf_E hr.1 hR]
  by_cases t1 : sX7_isCart (g.2.2.1 0) x = 0
  · rw [if_pos t1, if_pos t1, oe_none rfl]
    by_cases t2 : sX7_isBridge (g.2.2.1 0) y = 0
    · rw [if_pos t2, oe_none rfl]
    · rw [if_neg t2, oe_some rfl]
  rw [if_neg t1, if_neg t1, oe_some rfl]
  by_cases t2 : sX7_isBridge (g.2.2.1 0) y = 0
  · rw [if_pos t2, if_pos t2, oe_none rfl]
  rw [if_neg t2, if_neg t2, oe_some rfl]
  have hC := isCart_of hr.1 t1
  have hB := isBridge_of hr.1 t2
  by_cases t3 : sX7_isNumber (g.2.2.1 0) (nn y) z = 0
  · rw [if_pos t3, if_pos ((num_iff hr hB.2.2 hR).mpr t3)]
  rw [if_neg t3, if_neg (fun q => t3 ((num_iff hr hB.2.2 hR).mp q))]
  have hv : sX6_isBelow v 2 = 0 ↔ sX7_in v.toInt64 0 1 = 0 := by
    rw [← Decidable.not_iff_not, isB_iff, in_32, show (2 : Int32).toInt = 2 from by decide, show (0 : Int64).toInt = 0 from by decide, show (1 : Int64).toInt = 1 from by decide]
    omega
  by_cases t4 : sX7_in v.toInt64 0 1 = 0
  · rw [if_pos t4, if_pos (hv.mpr t4)]
  rw [if_neg t4, if_neg (fun q => t4 (hv.mp q))]
  have hz := num_of hr hB.2.2 t3
  have hs := (hr.2.2.1 _ hB.2.2).2.2
  have hsl := hs.le
  have h2 := hr.2.2.2 _ hB.2.2 hB.2.1
  have h2n := nn_toInt hs.1
  have es : g.1 0 (20 + 7 * nn y + 2) = g.2.2.1 0 (20 + 7 * nn y + 2) := hR.b (by omega) (by omega)
  obtain ⟨n1, n2⟩ := near_rel (z := nI 0) hI hR hC.2.2 hB.2.1 (sm_nI (j := 0) (n := 999) (by omega) (by omega)) hz.1
  rw [es, bX6_bestGuess_65, es, if_neg (fun q => by have := (cnt_le hs (p := 0) (by omega)).mp q; omega), n1]
  have o0 : (0 : Int32).toInt = 0 := by decide
  by_cases d : sX7_nearer (g.2.2.1 0 (168 + 2 * (12 * nn x + nn y))) (g.2.2.1 0 (168 + 2 * (12 * nn x + nn y) + 1)) (nI 0) z ≤ 0
  · have e0 : sX7_nearer (g.2.2.1 0 (168 + 2 * (12 * nn x + nn y))) (g.2.2.1 0 (168 + 2 * (12 * nn x + nn y) + 1)) 0 z = 0 := by
      rw [Int32.le_iff_toInt_le, o0] at d
      have : sX7_nearer (g.2.2.1 0 (168 + 2 * (12 * nn x + nn y))) (g.2.2.1 0 (168 + 2 * (12 * nn x + nn y) + 1)) (nI 0) z = 0 := Int32.toInt_inj.mp (by rw [o0]; omega)
      exact this
    rw [if_pos d, e0]
    exact best_loop h hC.2.2 hB.2.1 hz.1 _ _ _ _ _ (by omega) (by omega) (by omega)
  · rw [if_neg d]
    exact best_loop h hC.2.2 hB.2.1 hz.1 _ _ _ _ _ (by omega) (by omega) (by omega)
end NR
