/-! the law's hangs: the bridges -/
theorem nthL_inj {w : Row} {i c : Nat} : ∀ (l : List Nat) (r r' : Nat), l.Nodup → nthL w i l r = some c → nthL w i l r' = some c → r = r' := by
  intro l
  induction l with
  | nil => intro r r' _ h; cases h
  | cons x l ih =>
    intro r r' hn h h'
    obtain ⟨h1, h2⟩ := List.nodup_cons.mp hn
    rw [nthL] at h h'
    by_cases d : w (104 + 8 * x + 2) = nI i
    · rw [if_pos d] at h h'
      by_cases e : r = 0
      · by_cases e' : r' = 0
        · omega
        · rw [if_pos e] at h
          rw [if_neg e'] at h'
          cases h
          exact absurd (nthL_some _ _ h').1 h1
      · by_cases e' : r' = 0
        · rw [if_neg e] at h
          rw [if_pos e'] at h'
          cases h'
          exact absurd (nthL_some _ _ h).1 h1
        · rw [if_neg e] at h
          rw [if_neg e'] at h'
          have := ih _ _ h2 h h'
          omega
    · rw [if_neg d] at h h'
      exact ih _ _ h2 h h'
theorem nthL_pw {w : Row} {i c d : Nat} {R : Nat → Nat → Prop} : ∀ (l : List Nat) (r r' : Nat), l.Pairwise R → nthL w i l r = some c → nthL w i l r' = some d → r < r' → R c d := by
  intro l
  induction l with
  | nil => intro r r' _ h; cases h
  | cons x l ih =>
    intro r r' hn h h' hr
    obtain ⟨h1, h2⟩ := List.pairwise_cons.mp hn
    rw [nthL] at h h'
    by_cases q : w (104 + 8 * x + 2) = nI i
    · rw [if_pos q] at h h'
      rw [if_neg (show ¬ r' = 0 by omega)] at h'
      by_cases e : r = 0
      · rw [if_pos e] at h
        cases h
        exact h1 d (nthL_some _ _ h').1
      · rw [if_neg e] at h
        exact ih _ _ h2 h h' (by omega)
    · rw [if_neg q] at h h'
      exact ih _ _ h2 h h' hr
theorem nthL_ex {w : Row} {i c : Nat} (hw : w (104 + 8 * c + 2) = nI i) : ∀ (l : List Nat), c ∈ l → ∃ r, nthL w i l r = some c := by
  intro l
  induction l with
  | nil => intro h; cases h
  | cons x l ih =>
    intro h
    by_cases e : x = c
    · subst e
      exact ⟨0, by rw [nthL, if_pos hw, if_pos rfl]⟩
    · obtain ⟨r, hr⟩ := ih ((List.mem_cons.mp h).resolve_left (fun q => e q.symm))
      by_cases q : w (104 + 8 * x + 2) = nI i
      · exact ⟨r + 1, by rw [nthL, if_pos q, if_neg (by omega), show r + 1 - 1 = r by omega]; exact hr⟩
      · exact ⟨r, by rw [nthL, if_neg q]; exact hr⟩
theorem cmr_two {w : Row} {i c : Nat} (h : cmr w i = some c) : nthL w i (qs w) 0 = some c ∨ nthL w i (qs w) 1 = some c := by
  unfold cmr at h
  cases h0 : nthL w i (qs w) 0 with
  | none => rw [h0] at h; cases h
  | some a =>
    rw [h0, oe_some rfl] at h
    cases h1 : nthL w i (qs w) 1 with
    | none =>
      rw [h1, oe_none rfl] at h
      by_cases d : w (104 + 8 * a + 4) < w 3
      · rw [if_pos d] at h; cases h
      · rw [if_neg d] at h; cases h; exact Or.inl rfl
    | some b =>
      rw [h1, oe_some rfl] at h
      have P : ∀ lo hi, payer w lo hi = some c → c = lo ∨ c = hi := by
        intro lo hi q
        unfold payer at q
        by_cases c1 : w (104 + 8 * lo + 1) < w 0
        · rw [if_pos c1] at q
          by_cases c2 : w (104 + 8 * hi + 1) < w 0
          · rw [if_pos c2] at q; cases q
          · rw [if_neg c2] at q; cases q; exact Or.inr rfl
        · rw [if_neg c1] at q; cases q; exact Or.inl rfl
      by_cases t : far w a i = far w b i
      · rw [if_pos t] at h
        by_cases d : a < b
        · rw [if_pos d] at h
          rcases P _ _ h with q | q <;> subst q
          · exact Or.inl rfl
          · exact Or.inr rfl
        · rw [if_neg d] at h
          rcases P _ _ h with q | q <;> subst q
          · exact Or.inr rfl
          · exact Or.inl rfl
      · rw [if_neg t] at h
        by_cases d : far w b i ≤ far w a i
        · rw [if_pos d] at h; cases h; exact Or.inr rfl
        · rw [if_neg d] at h; cases h; exact Or.inl rfl
theorem sumI_z {f : Nat → Int32} {a : Nat} : ∀ (b : Nat), a ≤ b → (∀ k, a ≤ k → k < b → f k = 0) → sumI f b = sumI f a := by
  intro b
  induction b with
  | zero => intro h _; rw [show a = 0 by omega]
  | succ b ih =>
    intro h hz
    by_cases e : a = b + 1
    · rw [e]
    · rw [sumI, ih (by omega) (fun k h1 h2 => hz k h1 (by omega)), hz b (by omega) (by omega), Int32.add_zero]
theorem sumI_ofInt {f : Nat → Int32} : ∀ (n : Nat), sumI f n = Int32.ofInt (sumN (fun k => (f k).toInt) n) := by
  intro n
  induction n with
  | zero => rfl
  | succ n ih => rw [sumI, sumN, ih, Int32.ofInt_add, Int32.ofInt_toInt]
/-- carts that wait at a bridge ahead of p -/
def SB (w : Row) (p k : Nat) : Prop := k < 8 ∧ ∃ i, i < p ∧ w (104 + 8 * k + 2) = nI i
section HB
variable {w : Row} {gg : GS} {p : Nat}
variable {v1 v2 v3 v4 v5 v6 v7 v8 v9 : Int32}
theorem h626 {K : GS → Int32 → Int32 → Int32 → Int32 → Int32 → Int32 → Int32 → Int32 → Int32 → Nat → Int32 × GS} (h : WI (gg.1 0)) (hp : p < nn (gg.1 0 5)) : ∀ (n q : Nat), q ≤ nn (gg.1 0 6) → nn (gg.1 0 6) - q < n →
    bL_hangs_626 K n gg v1 (gg.1 0 6) v3 v4 v5 v6 v7 v8 v9 p q = K gg v1 (gg.1 0 6) v3 v4 v5 v6 v7 v8 v9 (p + 1) := by
  have h6 := h.a.n6
  have h5 := h.a.n5
  intro n
  induction n with
  | zero => intro q _ z; omega
  | succ n ih =>
    intro q hq hn
    rw [bL_hangs_626]
    have hcl := cnt_le (c := gg.1 0 6) (p := q) h.cn.2.2 (by omega)
    by_cases d : gg.1 0 6 ≤ nI q
    · rw [if_pos d]
    · rw [if_neg d]
      have hq2 : q < nn (gg.1 0 6) := by
        rcases Nat.lt_or_ge q (nn (gg.1 0 6)) with z | z
        · exact z
        · exact absurd (hcl.mpr z) d
      obtain ⟨r1, r2, r3, r4⟩ := h.r q p (by omega) (by omega) hp
      rw [ofB_3 h.cn hp, kn_0 h.cn hq2 hp, kn_1 h.cn hq2 hp, if_neg (by rw [Int32.lt_iff_toInt_lt]; exact Int.not_lt.mpr r2), if_pos (by rw [Int32.le_iff_toInt_le]; exact r3)]
      exact ih (q + 1) (by omega) (by omega)
theorem h594 {K : GS → Int32 → Int32 → Int32 → Int32 → Int32 → Int32 → Int32 → Int32 → Int32 → Nat → Int32 × GS} (h : WI (gg.1 0)) (hp : p < nn (gg.1 0 5)) :
    bL_hangs_594 K gg v1 (gg.1 0 6) v3 v4 v5 v6 v7 v8 v9 p = K gg v1 (gg.1 0 6) v3 v4 v5 v6 v7 v8 v9 (p + 1) := by
  have h5 := h.a.n5
  have hb := (h.b p (by omega) hp).2.2
  unfold bL_hangs_594
  rw [ofB_3 h.cn hp, ofB_2 h.cn hp, if_neg (by rw [Int32.lt_iff_toInt_lt, show (0 : Int32).toInt = 0 from by decide]; exact Int.not_lt.mpr hb.1), if_pos (by rw [Int32.lt_iff_toInt_lt]; exact hb.2)]
  exact h626 h hp _ 0 (by omega) (by omega)
theorem h450 {K : GS → Int32 → Int32 → Int32 → Int32 → Int32 → Int32 → Int32 → Int32 → Int32 → Nat → Int32 × GS} (h : WI (gg.1 0)) (hp : p < nn (gg.1 0 5)) : ∀ (n r : Nat) (u9 u12 : Int32), r ≤ cntL (gg.1 0) p (qs (gg.1 0)) → cntL (gg.1 0) p (qs (gg.1 0)) - r < n →
    MS u9 (fun k => SB (gg.1 0) p k ∨ ∃ r', r' < r ∧ nthL (gg.1 0) p (qs (gg.1 0)) r' = some k) → (∀ c, nthL (gg.1 0) p (qs (gg.1 0)) r = some c → ((gg.1 0) (104 + 8 * c + 4)).toInt ≤ u12.toInt) →
    ∃ x9 : Int32, MS x9 (SB (gg.1 0) (p + 1)) ∧ bL_hangs_450 K n gg v1 (gg.1 0 6) v3 v4 v5 v6 v7 v8 u9 p (nI (cntL (gg.1 0) p (qs (gg.1 0)))) u12 r = K gg v1 (gg.1 0 6) v3 v4 v5 v6 v7 v8 x9 (p + 1) := by
  have h6 := h.a.n6
  have h5 := h.a.n5
  have h10 := h.cn.1.le
  have hk := cntL_len (w := gg.1 0) (i := p) (qs (gg.1 0))
  rw [qs_len] at hk
  obtain ⟨m, hm⟩ : ∃ m, m = cntL (gg.1 0) p (qs (gg.1 0)) := ⟨_, rfl⟩
  rw [← hm] at hk ⊢
  intro n
  induction n with
  | zero => intro r _ _ _ z; omega
  | succ n ih =>
    intro r u9 u12 hr hn hM hb
    rw [bL_hangs_450]
    by_cases d : nI m ≤ nI r
    · have er : r = m := by
        have := (nI_leI (a := m) (b := r) (by omega) (by omega)).mp d
        omega
      subst er
      have hnone : nthL (gg.1 0) p (qs (gg.1 0)) r = none := (nthL_none _ _).mpr (by omega)
      have hs : MS u9 (SB (gg.1 0) (p + 1)) := MS_c (fun k => by
        constructor
        · rintro (⟨a, i, b, e⟩ | ⟨r', a, b⟩)
          · exact ⟨a, i, by omega, e⟩
          · obtain ⟨x, y⟩ := nthL_some _ _ b
            exact ⟨h.q8 x, p, by omega, y⟩
        · rintro ⟨a, i, b, e⟩
          by_cases q : i = p
          · subst q
            obtain ⟨hq, -, -⟩ := h.in_q a (show i < 12 by omega) e
            obtain ⟨r', hr'⟩ := nthL_ex e _ hq
            refine Or.inr ⟨r', ?_, hr'⟩
            rcases Nat.lt_or_ge r' r with z | z
            · exact z
            · rw [(nthL_none _ _).mpr (by omega)] at hr'
              cases hr'
          · exact Or.inl ⟨a, i, by omega, e⟩) hM
      refine ⟨u9, hs, ?_⟩
      have ht := h.m.2.1 p (by omega)
      have x := nx_eq h hp
      rw [if_pos d, wt_none h hp (by omega) hnone, if_pos rfl, ofB_5 h.cn hp, if_neg (by rw [Int32.lt_iff_toInt_lt, show (0 : Int32).toInt = 0 from by decide]; exact Int.not_lt.mpr ht), x]
      cases hc : cmr (gg.1 0) p with
      | none => rw [if_pos (show enc none = -6 from rfl)]; exact h594 h hp
      | some c =>
        have hc8 := h.q8 (cmr_mem hc).1
        rw [if_neg (show ¬ enc (some c) = -6 from nn_neg6 (by omega))]
        by_cases q : enc (some c) = sX6_waits gg (nI p) 0
        · rw [if_pos q]; exact h594 h hp
        · rw [if_neg q]
          have q1 : enc (some c) = sX6_waits gg (nI p) 1 := by
            rcases cmr_two hc with z | z
            · exact absurd (wt_some h hp (r := 0) (by omega) z).symm q
            · exact (wt_some h hp (r := 1) (by omega) z).symm
          rw [if_pos q1]; exact h594 h hp
    · rw [if_neg d]
      have hr2 : r < m := by
        rcases Nat.lt_or_ge r m with z | z
        · exact z
        · exact absurd (nI_le z (by omega)) d
      cases hc : nthL (gg.1 0) p (qs (gg.1 0)) r with
      | none =>
        have := (nthL_none _ _).mp hc
        omega
      | some c =>
        obtain ⟨hq, hw⟩ := nthL_some _ _ hc
        have hc8 := h.q8 hq
        have hc6 := h.lt6 hq
        have hnS : ¬ (SB (gg.1 0) p c ∨ ∃ r', r' < r ∧ nthL (gg.1 0) p (qs (gg.1 0)) r' = some c) := by
          rintro (⟨a, i, b, e⟩ | ⟨r', a, b⟩)
          · rw [hw, nI_eq (by omega) (by omega)] at e
            omega
          · have := nthL_inj _ _ _ h.q.1 hc b
            omega
        rw [wt_some h hp (by omega) hc, if_neg (nI_pos (by omega)), if_neg (fun z => hnS ((MS_t hc8 hM).mp z)), ofC_2 h.cn hc6, ofC_4 h.cn hc6, if_pos hw, if_pos (by rw [Int32.le_iff_toInt_le]; exact hb c hc)]
        refine ih (r + 1) _ _ (by omega) (by omega) (MS_c (fun k => ?_) (MS_or (c := c) (by omega) hM)) (fun x hx => nthL_pw _ _ _ h.d hc hx (by omega))
        constructor
        · rintro ((a | ⟨r', a, b⟩) | a)
          · exact Or.inl a
          · exact Or.inr ⟨r', by omega, b⟩
          · subst a; exact Or.inr ⟨r, by omega, hc⟩
        · rintro (a | ⟨r', a, b⟩)
          · exact Or.inl (Or.inl a)
          · by_cases e : r' = r
            · subst e
              rw [hc] at b
              cases b
              exact Or.inr rfl
            · exact Or.inl (Or.inr ⟨r', by omega, b⟩)
end HB
theorem h402 {w : Row} {g : GS} (hh : sm (w 4) 9999) (h : WI w) (hg : g.1 0 = w) {u7 : Int32} (h7 : MS u7 (fun k => k < nn (w 6) ∧ ¬ w (104 + 8 * k + 2) = -6)) : ∀ (n p : Nat) (u9 : Int32), p ≤ nn (w 5) → nn (w 5) - p < n → MS u9 (SB w p) →
    bL_hangs_402 n g (w 5) (w 6) (sumI (fun k => w (104 + 8 * k + 1)) (nn (w 6))) (sumI (fun k => w (20 + 7 * k + 4)) p) (sumI (fun k => w (104 + 8 * k + 5)) (nn (w 6))) (sumI (fun k => w (20 + 7 * k + 5)) p) u7 (sumI (fun k => w (104 + 8 * k + 6) - w (104 + 8 * k + 7)) (nn (w 6))) u9 p = (1, g) := by
  have h6 := h.a.n6
  have h5 := h.a.n5
  subst hg
  intro n
  induction n with
  | zero => intro p _ _ q; omega
  | succ n ih =>
    intro p u9 hp hn hM
    rw [bL_hangs_402]
    have hcl := cnt_le (c := g.1 0 5) (p := p) h.cn.2.1 (by omega)
    by_cases d : g.1 0 5 ≤ nI p
    · have ep : p = nn (g.1 0 5) := by have := hcl.mp d; omega
      rw [if_pos d]
      subst ep
      have e7 : u7 = sX5_waitingSet (g.1 0) := MS_eq h7 (MS_wait h.cn)
      have e9 : u9 = u7 := MS_eq hM (MS_c (fun k => by
        constructor
        · rintro ⟨a, b⟩
          obtain ⟨-, -, i, c1, c2, c3⟩ := h.wait (show k < 8 by omega) b
          exact ⟨by omega, i, c1, c3⟩
        · rintro ⟨a, i, b, c⟩
          exact ⟨(h.in_q a (show i < 12 by omega) c).2.1, by rw [c]; exact nn_neg6 (by omega)⟩) h7)
      have z5 : sumI (fun k => (g.1 0) (104 + 8 * k + 5)) (nn (g.1 0 6)) = sumI (fun k => (g.1 0) (20 + 7 * k + 5)) (nn (g.1 0 5)) := by
        have a := sumI_z (f := fun k => (g.1 0) (104 + 8 * k + 5)) (a := nn (g.1 0 6)) 8 h6 (fun k h1 h2 => (h.z.2 k h2 h1).2.1)
        have b := sumI_z (f := fun k => (g.1 0) (20 + 7 * k + 5)) (a := nn (g.1 0 5)) 12 h5 (fun k h1 h2 => (h.z.1 k h2 h1).2)
        rw [← a, ← b]; exact h.x
      have zp : sumI (fun k => (g.1 0) (104 + 8 * k + 6) - (g.1 0) (104 + 8 * k + 7)) (nn (g.1 0 6)) = sumI (fun k => (g.1 0) (20 + 7 * k + 4)) (nn (g.1 0 5)) := by
        have a := sumI_z (f := fun k => (g.1 0) (104 + 8 * k + 6) - (g.1 0) (104 + 8 * k + 7)) (a := nn (g.1 0 6)) 8 h6 (fun k h1 h2 => by
          have := h.z.2 k h2 h1
          show (g.1 0) (104 + 8 * k + 6) - (g.1 0) (104 + 8 * k + 7) = 0
          rw [this.2.2.1, this.2.2.2]; decide)
        have b := sumI_z (f := fun k => (g.1 0) (20 + 7 * k + 4)) (a := nn (g.1 0 5)) 12 h5 (fun k h1 h2 => (h.z.1 k h2 h1).1)
        rw [← a, ← b]; exact h.p
      have z1 : sumI (fun k => (g.1 0) (104 + 8 * k + 1)) (nn (g.1 0 6)) + sumI (fun k => (g.1 0) (20 + 7 * k + 4)) (nn (g.1 0 5)) = (g.1 0) 8 := by
        have a := sumI_z (f := fun k => (g.1 0) (104 + 8 * k + 1)) (a := nn (g.1 0 6)) 8 h6 (fun k h1 h2 => (h.z.2 k h2 h1).1)
        have b := sumI_z (f := fun k => (g.1 0) (20 + 7 * k + 4)) (a := nn (g.1 0 5)) 12 h5 (fun k h1 h2 => (h.z.1 k h2 h1).1)
        rw [← a, ← b, sumI_ofInt, sumI_ofInt, ← Int32.ofInt_add]
        have := h.m.2.2.1
        show Int32.ofInt (sumN (co (g.1 0)) 8 + sumN (tl (g.1 0)) 12) = _
        rw [this, Int32.ofInt_toInt]
      have s4 : sX5_sumOverBridges (g.1 0) 6 = sumI (fun k => (g.1 0) (20 + 7 * k + 5)) (nn (g.1 0 5)) := by
        rw [sumB_eq h.cn]
        exact sumI_congr _ (fun k _ => part0.2.2.2.2.2.2)
      have s5 : sX5_sumOverCarts (g.1 0) 1 = sumI (fun k => (g.1 0) (104 + 8 * k + 1)) (nn (g.1 0 6)) := by
        rw [sumC_eq h.cn]
        exact sumI_congr _ (fun k _ => part1.2.1)
      have s6 : sX5_sumOverBridges (g.1 0) 5 = sumI (fun k => (g.1 0) (20 + 7 * k + 4)) (nn (g.1 0 5)) := by
        rw [sumB_eq h.cn]
        exact sumI_congr _ (fun k _ => part0.2.2.2.2.2.1)
      rw [ct_3, ct_4, ct_5, ct_6, ct_7, s4, s5, s6, if_pos e9, if_pos e7, if_pos z5, if_pos z5, if_pos rfl, if_pos rfl, if_pos z1, if_pos zp]
    · rw [if_neg d]
      have hp2 : p < nn (g.1 0 5) := by
        rcases Nat.lt_or_ge p (nn (g.1 0 5)) with q | q
        · exact q
        · exact absurd (hcl.mpr q) d
      have hk := cntL_len (w := g.1 0) (i := p) (qs (g.1 0))
      rw [qs_len] at hk
      have h10 := h.cn.1.le
      rw [ofB_4 h.cn hp2, ofB_5 h.cn hp2, ofB_6 h.cn hp2, h.k p (by omega), nn_nI (by omega)]
      obtain ⟨x9, hx, e⟩ := h450 (K := bL_hangs_402 n) (v1 := g.1 0 5) (v3 := sumI (fun k => (g.1 0) (104 + 8 * k + 1)) (nn (g.1 0 6))) (v4 := sumI (fun k => (g.1 0) (20 + 7 * k + 4)) p + (g.1 0) (20 + 7 * p + 4)) (v5 := sumI (fun k => (g.1 0) (104 + 8 * k + 5)) (nn (g.1 0 6))) (v6 := sumI (fun k => (g.1 0) (20 + 7 * k + 5)) p + (g.1 0) (20 + 7 * p + 5)) (v7 := u7) (v8 := sumI (fun k => (g.1 0) (104 + 8 * k + 6) - (g.1 0) (104 + 8 * k + 7)) (nn (g.1 0 6))) h hp2 (cntL (g.1 0) p (qs (g.1 0)) + 1) 0 u9 9999 (by omega) (by omega) (MS_c (fun k => by
          constructor
          · exact fun a => Or.inl a
          · rintro (a | ⟨r', a, -⟩)
            · exact a
            · omega) hM) (fun c hc => by
          obtain ⟨hq, hw⟩ := nthL_some _ _ hc
          have he := (h.e c p (h.q8 hq) (by omega) hw).2.2.2
          have := hh.2
          rw [show (9999 : Int32).toInt = 9999 from by decide]
          omega)
      rw [e]
      exact ih (p + 1) x9 (by omega) (by omega) hx
/-- hangs tells that all hangs together -/
theorem hangs_ok {g : GS} (hh : sm (g.1 0 4) 9999) (h : WI (g.1 0)) : ∃ g' : GS, Sim g g' ∧ sL_hangs g = (1, g') := by
  have h6 := h.a.n6
  have h5 := h.a.n5
  obtain ⟨g', u7, hS, hM, e⟩ := h32 hh h rfl (nn (g.1 0 6) + 1) 0 g 0 (by omega) (by omega) Sim.rf (MS_c (fun k => ⟨fun q => absurd q id, fun q => absurd q.1 (Nat.not_lt_zero _)⟩) MS_0)
  refine ⟨g', hS, ?_⟩
  have e0 : sL_hangs g = bL_hangs_32 (nn (g.1 0 6) + 1) g (g.1 0 5) (g.1 0 6) (sumI (fun k => (g.1 0) (104 + 8 * k + 1)) 0) 0 (sumI (fun k => (g.1 0) (104 + 8 * k + 5)) 0) 0 0 (sumI (fun k => (g.1 0) (104 + 8 * k + 6) - (g.1 0) (104 + 8 * k + 7)) 0) 0 := rfl
  rw [e0, e]
  exact h402 (w := g.1 0) hh h hS.w hM (nn (g.1 0 5) + 1) 0 0 (by omega) (by omega) (MS_c (fun k => ⟨fun q => absurd q id, fun q => by obtain ⟨-, i, a, -⟩ := q; exact absurd a (Nat.not_lt_zero _)⟩) MS_0)
