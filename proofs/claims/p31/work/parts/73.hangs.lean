/-! the law's hangs: the carts -/
theorem Sim.w {g g' : GS} (h : Sim g g') : g'.1 0 = g.1 0 := h.1 0 (by omega)
theorem enc_c {o : Option Nat} {c : Nat} (hc : c < 2 ^ 31) (ho : ∀ d, o = some d → d < 2 ^ 31) : enc o = nI c ↔ o = some c := by
  cases o with
  | none =>
    show -6 = nI c ↔ _
    exact ⟨fun q => absurd q.symm (nn_neg6 hc), fun q => by cases q⟩
  | some d =>
    show nI d = nI c ↔ _
    rw [nI_eq (ho d rfl) hc]
    exact ⟨fun q => by rw [q], fun q => by cases q; rfl⟩
theorem nI_lit1 {m : Nat} (hm : m < 2 ^ 31) : nI m = 1 ↔ m = 1 := nI_eq (b := 1) hm (by omega)
/-- the next hour and overIn tell the same -/
theorem over_1 {g : GS} {c i : Nat} (hh : sm (g.1 0 4) 9999) (h : WI (g.1 0)) (hc : c < 8) (hi : i < 12) (hw : (g.1 0) (104 + 8 * c + 2) = nI i) : ¬ (sX6_overIn g (nI c)).1 = -5 ∧ ((sX6_overIn g (nI c)).1 = 1 ↔ cmr (g.1 0) i = some c) := by
  obtain ⟨-, hc6, hi5⟩ := h.in_q hc hi hw
  have hnw : ¬ (g.1 0) (104 + 8 * c + 2) = -6 := by rw [hw]; exact nn_neg6 (by omega)
  have hr := (hour (sm_w hh (by omega)) h).2.2 c hc
  have n5 := h.a.n5
  have h1 : itR 1 (g.1 0) (104 + 8 * c + 2) = -6 ↔ cmr (g.1 0) i = some c := by
    show (sX5_playHour (g.1 0)).2 (104 + 8 * c + 2) = -6 ↔ _
    constructor
    · intro q
      by_cases e : ∃ b, b < nn (g.1 0 5) ∧ cmr (g.1 0) b = some c
      · obtain ⟨b, hb, hbc⟩ := e
        have := (cmr_mem hbc).2
        rw [hw, nI_eq (by omega) (by omega)] at this
        rw [this]; exact hbc
      · rw [(hr.2 e).1] at q
        exact absurd q hnw
    · intro q
      exact (hr.1 ⟨i, hi5, q⟩).1
  rcases overIn_eq h.cn hc6 hnw with ⟨m, ⟨m1, m2⟩, e, e1, e2⟩ | ⟨e, e2⟩
  · rw [e]
    refine ⟨fun q => ?_, ?_⟩
    · have := congrArg Int32.toInt q
      rw [nI_toInt (by omega), show (-5 : Int32).toInt = -5 from by decide] at this
      omega
    · rw [nI_lit1 (by omega), ← h1]
      constructor
      · intro q; rw [← q]; exact e1
      · intro q
        by_cases z : m = 1
        · exact z
        · exact absurd q (e2 1 (by omega))
  · rw [e]
    refine ⟨by decide, ?_⟩
    rw [← h1]
    exact ⟨fun q => absurd q (by decide), fun q => absurd q (e2 1 (by omega))⟩
section HG
variable {g gg : GS} {p i : Nat}
/-- a cart that doesn't wait -/
theorem h111_n {K : GS → Int32 → Int32 → Int32 → Int32 → Int32 → Int32 → Int32 → Int32 → Nat → Int32 × GS} {v1 v2 v3 v4 v5 v6 v7 v8 : Int32} (h : WI (gg.1 0)) (hp : p < nn (gg.1 0 6)) (hw : (gg.1 0) (104 + 8 * p + 2) = -6) :
    bL_hangs_111 K gg v1 v2 v3 v4 v5 v6 v7 v8 p (-6) = K (sX6_overIn gg (nI p)).2 v1 v2 v3 v4 v5 v6 v7 v8 (p + 1) := by
  have h6 := h.a.n6
  have hn := h.n p (by omega) hw
  have hc := h.m.1 p (by omega)
  have ht := h.t p (by omega)
  have z0 : (0 : Int32).toInt = 0 := by decide
  unfold bL_hangs_111
  rw [ofC_1 h.cn hp, ofC_0 h.cn hp, ofC_3 h.cn hp, if_neg (by rw [Int32.lt_iff_toInt_lt, z0]; exact Int.not_lt.mpr hc), if_neg (by rw [Int32.lt_iff_toInt_lt, z0]; exact Int.not_lt.mpr ht.1),
    if_neg (by rw [Int32.lt_iff_toInt_lt, show (7 : Int32).toInt = 7 from by decide]; exact Int.not_lt.mpr ht.2), if_pos rfl, if_pos hn.1]
  unfold bL_hangs_175
  rw [if_pos rfl, ofC_4 h.cn hp, if_pos hn.2]
  unfold bL_hangs_192
  rw [if_pos rfl, if_pos (why_no h.cn hp hw)]
  unfold bL_hangs_222
  rw [if_pos rfl, if_pos (overIn_no h.cn hp hw)]
  unfold bL_hangs_255
  rw [if_pos rfl]
/-- a cart that waits at the bridge i -/
theorem h111_w {K : GS → Int32 → Int32 → Int32 → Int32 → Int32 → Int32 → Int32 → Int32 → Nat → Int32 × GS} {v1 v2 v3 v4 v5 v6 v7 v8 : Int32} (hh : sm (gg.1 0 4) 9999) (h : WI (gg.1 0)) (hp : p < nn (gg.1 0 6)) (hi : i < 12) (hw : (gg.1 0) (104 + 8 * p + 2) = nI i) :
    ∃ g' : GS, Sim gg g' ∧ bL_hangs_111 K gg v1 v2 v3 v4 v5 v6 v7 v8 p (nI i) = K g' v1 v2 v3 v4 v5 v6 v7 v8 (p + 1) := by
  have h6 := h.a.n6
  have hc := h.m.1 p (by omega)
  have ht := h.t p (by omega)
  have z0 : (0 : Int32).toInt = 0 := by decide
  have hi5 := (h.in_q (show p < 8 by omega) hi hw).2.2
  have he := h.e p i (by omega) hi hw
  have n6 : ¬ nI i = -6 := nn_neg6 (by omega)
  have g6 : ¬ (gg.1 0) (104 + 8 * p + 3) = -6 := fun q => by
    have := he.2.1.1
    rw [q] at this
    exact absurd this (by decide)
  have g0 : ¬ (gg.1 0) (104 + 8 * p + 3) < 0 := by
    rw [Int32.lt_iff_toInt_lt, z0]; exact Int.not_lt.mpr he.2.1.1
  have g1 : (gg.1 0) (104 + 8 * p + 3) < (gg.1 0) (20 + 7 * i + 2) := by
    rw [Int32.lt_iff_toInt_lt]; exact he.2.1.2
  -- the state behind overIn
  have S1 : ∀ G : GS, Sim gg G → Sim gg (sX6_overIn G (nI p)).2 := fun G hG => hG.tr Sim_over
  have b361 : ∀ G : GS, Sim gg G → bL_hangs_361 K G v1 v2 v3 v4 v5 v6 v7 v8 p (nI i) = K G v1 v2 v3 v4 v5 v6 v7 v8 (p + 1) := fun G hG => by
    have e := hG.w
    unfold bL_hangs_361
    rw [ofC_3 (by rw [e]; exact h.cn) (by rw [e]; exact hp), ofB_2 (by rw [e]; exact h.cn) (by rw [e]; exact hi5), e, if_neg g0, if_pos g1]
  have b329 : ∀ G : GS, Sim gg G → ∃ g' : GS, Sim gg g' ∧ bL_hangs_329 K G v1 v2 v3 v4 v5 v6 v7 v8 p (nI i) = K g' v1 v2 v3 v4 v5 v6 v7 v8 (p + 1) := fun G hG => by
    have e := hG.w
    have y := (why_is (g := G) (by rw [e]; exact h) (by rw [e]; exact hp) (by rw [e]; exact hi5) (by rw [e]; exact hw)).2
    have o := (over_1 (g := G) (by rw [e]; exact hh) (by rw [e]; exact h) (show p < 8 by omega) hi (by rw [e]; exact hw)).2
    unfold bL_hangs_329
    by_cases q : cmr (G.1 0) i = some p
    · rw [if_pos (y.mpr q), if_pos (o.mpr q)]
      exact ⟨_, S1 G hG, b361 _ (S1 G hG)⟩
    · rw [if_neg (fun z => q (y.mp z)), if_neg (fun z => q (o.mp z))]
      exact ⟨_, S1 G hG, b361 _ (S1 G hG)⟩
  have b296 : ∀ G : GS, Sim gg G → ∃ g' : GS, Sim gg g' ∧ bL_hangs_296 K G v1 v2 v3 v4 v5 v6 v7 v8 p (nI i) = K g' v1 v2 v3 v4 v5 v6 v7 v8 (p + 1) := fun G hG => by
    have e := hG.w
    have y := (why_is (g := G) (by rw [e]; exact h) (by rw [e]; exact hp) (by rw [e]; exact hi5) (by rw [e]; exact hw)).2
    have x := nx_eq (g := G) (by rw [e]; exact h) (show i < nn (G.1 0 5) by rw [e]; exact hi5)
    have x2 : sX6_next G (nI i) = nI p ↔ cmr (G.1 0) i = some p := by
      rw [x]
      exact enc_c (by omega) (fun d hd => by
        rw [e] at hd
        have := h.q8 (cmr_mem hd).1
        omega)
    unfold bL_hangs_296
    by_cases q : cmr (G.1 0) i = some p
    · rw [if_pos (x2.mpr q), if_pos (y.mpr q)]; exact b329 G hG
    · rw [if_neg (fun z => q (x2.mp z)), if_neg (fun z => q (y.mp z))]; exact b329 G hG
  have b255 : ∀ G : GS, Sim gg G → ∃ g' : GS, Sim gg g' ∧ bL_hangs_255 K G v1 v2 v3 v4 v5 v6 v7 v8 p (nI i) = K g' v1 v2 v3 v4 v5 v6 v7 v8 (p + 1) := fun G hG => by
    have e := hG.w
    unfold bL_hangs_255
    rw [if_neg n6, ofB_0 (by rw [e]; exact h.cn) (by rw [e]; exact hi5), ofB_1 (by rw [e]; exact h.cn) (by rw [e]; exact hi5), ofC_0 (by rw [e]; exact h.cn) (by rw [e]; exact hp), e]
    by_cases q : (gg.1 0) (20 + 7 * i) = (gg.1 0) (104 + 8 * p)
    · rw [if_pos q]; exact b296 G hG
    · rw [if_neg q, if_pos (he.1.resolve_left (fun z => q z.symm)).symm]; exact b296 G hG
  unfold bL_hangs_111
  rw [ofC_1 h.cn hp, ofC_0 h.cn hp, ofC_3 h.cn hp, if_neg (by rw [Int32.lt_iff_toInt_lt, z0]; exact Int.not_lt.mpr hc), if_neg (by rw [Int32.lt_iff_toInt_lt, z0]; exact Int.not_lt.mpr ht.1),
    if_neg (by rw [Int32.lt_iff_toInt_lt, show (7 : Int32).toInt = 7 from by decide]; exact Int.not_lt.mpr ht.2), if_neg n6, if_neg g6]
  unfold bL_hangs_175
  rw [if_neg n6]
  unfold bL_hangs_192
  rw [if_neg n6, if_neg (why_is h hp hi5 hw).1]
  unfold bL_hangs_222
  rw [if_neg n6, if_neg (over_1 hh h (show p < 8 by omega) hi hw).1]
  exact b255 _ Sim_over
theorem h32 {w : Row} (hh : sm (w 4) 9999) (h : WI w) (hg : g.1 0 = w) : ∀ (n p : Nat) (gg : GS) (v7 : Int32), p ≤ nn (w 6) → nn (w 6) - p < n → Sim g gg → MS v7 (fun k => k < p ∧ ¬ w (104 + 8 * k + 2) = -6) →
    ∃ (g' : GS) (u7 : Int32), Sim g g' ∧ MS u7 (fun k => k < nn (w 6) ∧ ¬ w (104 + 8 * k + 2) = -6) ∧
      bL_hangs_32 n gg (w 5) (w 6) (sumI (fun k => w (104 + 8 * k + 1)) p) 0 (sumI (fun k => w (104 + 8 * k + 5)) p) 0 v7 (sumI (fun k => w (104 + 8 * k + 6) - w (104 + 8 * k + 7)) p) p =
      bL_hangs_402 (nn (w 5) + 1) g' (w 5) (w 6) (sumI (fun k => w (104 + 8 * k + 1)) (nn (w 6))) 0 (sumI (fun k => w (104 + 8 * k + 5)) (nn (w 6))) 0 u7 (sumI (fun k => w (104 + 8 * k + 6) - w (104 + 8 * k + 7)) (nn (w 6))) 0 0 := by
  have h6 := h.a.n6
  intro n
  induction n with
  | zero => intro p gg v7 _ q; omega
  | succ n ih =>
    intro p gg v7 hp hn hS hM
    have e : gg.1 0 = w := hS.w.trans hg
    rw [bL_hangs_32]
    have hcl := cnt_le (c := w 6) (p := p) h.cn.2.2 (by omega)
    by_cases d : w 6 ≤ nI p
    · have ep : p = nn (w 6) := by have := hcl.mp d; omega
      rw [if_pos d]
      subst ep
      exact ⟨gg, v7, hS, hM, rfl⟩
    · rw [if_neg d]
      have hp2 : p < nn (w 6) := by
        rcases Nat.lt_or_ge p (nn (w 6)) with q | q
        · exact q
        · exact absurd (hcl.mpr q) d
      have hp3 : p < nn (gg.1 0 6) := by rw [e]; exact hp2
      have hcn : Cn (gg.1 0) := by rw [e]; exact h.cn
      rw [ofC_2 hcn hp3, ofC_1 hcn hp3, ofC_5 hcn hp3, ofC_6 hcn hp3, ofC_7 hcn hp3, e]
      by_cases hw : w (104 + 8 * p + 2) = -6
      · rw [if_pos hw, hw, h111_n (by rw [e]; exact h) hp3 (by rw [e]; exact hw), Int32.or_zero]
        refine ih (p + 1) _ v7 (by omega) (by omega) (hS.tr Sim_over) (MS_c (fun k => ?_) hM)
        constructor
        · rintro ⟨a, b⟩; exact ⟨by omega, b⟩
        · rintro ⟨a, b⟩
          refine ⟨?_, b⟩
          by_cases k' : k = p
          · subst k'; exact absurd hw b
          · omega
      · rw [if_neg hw]
        obtain ⟨-, -, i, hi5, hi, hwi⟩ := h.wait (show p < 8 by omega) hw
        rw [hwi]
        obtain ⟨g', hS', e'⟩ := h111_w (K := bL_hangs_32 n) (v1 := w 5) (v2 := w 6) (v3 := sumI (fun k => w (104 + 8 * k + 1)) p + w (104 + 8 * p + 1)) (v4 := 0) (v5 := sumI (fun k => w (104 + 8 * k + 5)) p + w (104 + 8 * p + 5)) (v6 := 0) (v7 := v7 ||| (1 <<< ((nI p) &&& 31))) (v8 := sumI (fun k => w (104 + 8 * k + 6) - w (104 + 8 * k + 7)) p + (w (104 + 8 * p + 6) - w (104 + 8 * p + 7))) (by rw [e]; exact hh) (by rw [e]; exact h) hp3 hi (by rw [e]; exact hwi)
        rw [e']
        refine ih (p + 1) g' _ (by omega) (by omega) (hS.tr hS') (MS_c (fun k => ?_) (MS_or (c := p) (by omega) hM))
        constructor
        · rintro (⟨a, b⟩ | a)
          · exact ⟨by omega, b⟩
          · subst a; exact ⟨by omega, hw⟩
        · rintro ⟨a, b⟩
          by_cases k' : k = p
          · exact Or.inr k'
          · exact Or.inl ⟨by omega, b⟩
end HG
