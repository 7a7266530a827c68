/-! the reference measures by relaxing; what it leaves is the least number too -/
def rlx (r : Row) (a b : Nat) : Row := upd r (200 + a) (if r (200 + a) ≤ r (200 + b) + 1 then r (200 + a) else r (200 + b) + 1)
def AW (r : Row) : Prop := ∀ v, v < 8 → sm (r (200 + v)) 8
def aw (r : Row) (v : Nat) : Nat := nn (r (200 + v))
theorem le_8 : ∀ d, d < 9 → ∀ e, e < 9 → (nI d ≤ nI e + 1 ↔ d ≤ e + 1) := by decide +kernel
theorem rlx_at {r : Row} {a b : Nat} (h : AW r) (ha : a < 8) (hb : b < 8) : AW (rlx r a b) ∧ ∀ v, v < 8 → aw (rlx r a b) v = if v = a then (if aw r a ≤ aw r b + 1 then aw r a else aw r b + 1) else aw r v := by
  have hA := h a ha
  have hB := h b hb
  have la := hA.le
  have lb := hB.le
  have e := le_8 (nn (r (200 + a))) (by omega) (nn (r (200 + b))) (by omega)
  rw [← hA.eq, ← hB.eq] at e
  have key : ∀ v, v < 8 → rlx r a b (200 + v) = if v = a then (if aw r a ≤ aw r b + 1 then r (200 + a) else r (200 + b) + 1) else r (200 + v) := by
    intro v hv
    unfold rlx
    by_cases c : v = a
    · subst c
      rw [upde, if_pos rfl]
      by_cases d : r (200 + v) ≤ r (200 + b) + 1
      · rw [if_pos d, if_pos (show aw r v ≤ aw r b + 1 from e.mp d)]
      · rw [if_neg d, if_neg (show ¬ aw r v ≤ aw r b + 1 from fun q => d (e.mpr q))]
    · rw [updn (by omega), if_neg c]
  have inc := nn_inc hB (by omega)
  refine ⟨fun v hv => ?_, fun v hv => ?_⟩
  · rw [key v hv]
    by_cases c : v = a
    · rw [if_pos c]
      by_cases d : aw r a ≤ aw r b + 1
      · rw [if_pos d]; exact hA
      · rw [if_neg d]
        refine sm_lt inc.2 ?_
        rw [inc.1]
        unfold aw at d
        omega
    · rw [if_neg c]; exact h v hv
  · show nn (rlx r a b (200 + v)) = _
    rw [key v hv]
    by_cases c : v = a
    · rw [if_pos c, if_pos c]
      by_cases d : aw r a ≤ aw r b + 1
      · rw [if_pos d, if_pos d]; rfl
      · rw [if_neg d, if_neg d, inc.1]; rfl
    · rw [if_neg c, if_neg c]; rfl
theorem rlx_out {r : Row} {a b z : Nat} (ha : a < 8) (hz : z < 200) : rlx r a b z = r z := updn (by omega)
def bth (r : Row) (a b : Nat) : Row := rlx (rlx r a b) b a
theorem bth_step {w : Row} {x : Int32} {n p q : Nat} {r : Row} (c : ¬ w 5 ≤ nI q) : bX7_measures_41 w x (n + 1) r p q = bX7_measures_41 w x n (bth r (nn (w (20 + 7 * q))) (nn (w (20 + 7 * q + 1)))) p (q + 1) := by
  rw [bX7_measures_41, if_neg c]
  generalize nn (w (20 + 7 * q)) = a
  generalize nn (w (20 + 7 * q + 1)) = b
  unfold bth
  by_cases d : r (200 + a) ≤ r (200 + b) + 1
  · have e : rlx r a b = upd r (200 + a) (r (200 + a)) := by unfold rlx; rw [if_pos d]
    rw [if_pos d, e]
    by_cases f : (upd r (200 + a) (r (200 + a))) (200 + b) ≤ (upd r (200 + a) (r (200 + a))) (200 + a) + 1
    · rw [if_pos f]; unfold rlx; rw [if_pos f]
    · rw [if_neg f]; unfold rlx; rw [if_neg f]
  · have e : rlx r a b = upd r (200 + a) (r (200 + b) + 1) := by unfold rlx; rw [if_neg d]
    rw [if_neg d, e]
    by_cases f : (upd r (200 + a) (r (200 + b) + 1)) (200 + b) ≤ (upd r (200 + a) (r (200 + b) + 1)) (200 + a) + 1
    · rw [if_pos f]; unfold rlx; rw [if_pos f]
    · rw [if_neg f]; unfold rlx; rw [if_neg f]
def Low (w : Row) (y : Nat) (r : Row) : Prop := AW r ∧ ∀ v, v < 8 → aw r v < 8 → rch w (aw r v) y v
def Upp (w : Row) (y p : Nat) (r : Row) : Prop := ∀ n, n < p → ∀ v, v < 8 → rch w n y v → aw r v ≤ n
def Prt (w : Row) (y p q : Nat) (r : Row) : Prop := ∀ j, j < q → (rch w (p - 1) y (nn (w (20 + 7 * j))) → aw r (nn (w (20 + 7 * j + 1))) ≤ p) ∧ (rch w (p - 1) y (nn (w (20 + 7 * j + 1))) → aw r (nn (w (20 + 7 * j))) ≤ p)
theorem rlx_low {w r : Row} {y a b : Nat} (ha : a < 8) (hb : b < 8) (hj : adj w b a) (h : Low w y r) : Low w y (rlx r a b) ∧ ∀ v, v < 8 → aw (rlx r a b) v ≤ aw r v := by
  obtain ⟨k1, k2⟩ := rlx_at h.1 ha hb
  refine ⟨⟨k1, fun v hv hl => ?_⟩, fun v hv => ?_⟩
  · rw [k2 v hv] at hl ⊢
    by_cases c : v = a
    · subst c
      rw [if_pos rfl] at hl ⊢
      by_cases d : aw r v ≤ aw r b + 1
      · rw [if_pos d] at hl ⊢; exact h.2 v hv hl
      · rw [if_neg d] at hl ⊢
        exact Or.inr ⟨b, h.2 b hb (by omega), hj⟩
    · rw [if_neg c] at hl ⊢; exact h.2 v hv hl
  · rw [k2 v hv]
    by_cases c : v = a
    · subst c
      rw [if_pos rfl]
      by_cases d : aw r v ≤ aw r b + 1
      · rw [if_pos d]; omega
      · rw [if_neg d]; omega
    · rw [if_neg c]; omega
theorem rlx_le {r : Row} {a b : Nat} (h : AW r) (ha : a < 8) (hb : b < 8) : aw (rlx r a b) a ≤ aw r b + 1 := by
  rw [(rlx_at h ha hb).2 a ha, if_pos rfl]
  by_cases d : aw r a ≤ aw r b + 1
  · rw [if_pos d]; exact d
  · rw [if_neg d]; omega
theorem upp_mono {w r r' : Row} {y p : Nat} (hm : ∀ v, v < 8 → aw r' v ≤ aw r v) (h : Upp w y p r) : Upp w y p r' := fun n hn v hv k => Nat.le_trans (hm v hv) (h n hn v hv k)
theorem upp_next {w r : Row} {y p : Nat} (hr : Rn w) (hp : 0 < p) (h : Upp w y p r) (hP : Prt w y p (nn (w 5)) r) : Upp w y (p + 1) r := by
  intro n hn v hv k
  rcases Nat.lt_or_ge n p with c | c
  · exact h n c v hv k
  · have e : n = (p - 1) + 1 := by omega
    rw [e] at k
    rcases k with k | ⟨t, k1, q, hq, k2⟩
    · have := h (p - 1) (by omega) v hv k
      omega
    · have := hP q hq
      rcases k2 with ⟨a, b⟩ | ⟨a, b⟩
      · rw [← a] at k1; rw [← b]; have := this.1 k1; omega
      · rw [← b] at k1; rw [← a]; have := this.2 k1; omega
theorem meas_loop {w : Row} {x : Int32} {y : Nat} (hr : Rn w) : ∀ (n : Nat) (r : Row) (p q : Nat), 1 ≤ p → p ≤ 7 → q ≤ nn (w 5) → 13 * (8 - p) - q < n → Low w y r → Upp w y p r → Prt w y p q r →
    Low w y (bX7_measures_41 w x n r p q) ∧ Upp w y 8 (bX7_measures_41 w x n r p q) ∧ ∀ z, z < 200 → bX7_measures_41 w x n r p q z = r z := by
  have h5 := hr.1.2.1.le
  intro n
  induction n with
  | zero => intro r p q _ _ _ h; omega
  | succ n ih =>
    intro r p q hp1 hp7 hq hn hL hU hP
    have hc := cnt_le (c := w 5) (p := q) hr.1.2.1 (by omega)
    by_cases c : w 5 ≤ nI q
    · have eq : q = nn (w 5) := by have := hc.mp c; omega
      rw [bX7_measures_41, if_pos c]
      have hU' := upp_next hr (by omega) hU (by rw [← eq]; exact hP)
      by_cases d : 8 ≤ nI (p + 1)
      · rw [if_pos d]
        have : p = 7 := by
          rcases Nat.lt_or_ge p 7 with k | k
          · exact absurd d (nI_ge (b := 8) (a := p + 1) (by omega) (by decide))
          · omega
        rw [this] at hU'
        exact ⟨hL, hU', fun z _ => rfl⟩
      · rw [if_neg d]
        have hp2 := lit_lt (n := 8) (p := p + 1) d (by omega) (by omega)
        exact ih r (p + 1) 0 (by omega) (by omega) (by omega) (by omega) hL hU' (fun j hj => by omega)
    · rw [bth_step c]
      have hq2 : q < nn (w 5) := by
        rcases Nat.lt_or_ge q (nn (w 5)) with k | k
        · exact k
        · exact absurd (hc.mpr k) c
      have t := hr.2.2.1 q (by omega)
      have ta := t.1.le
      have tb := t.2.1.le
      have hab : adj w (nn (w (20 + 7 * q))) (nn (w (20 + 7 * q + 1))) := ⟨q, hq2, Or.inl ⟨rfl, rfl⟩⟩
      obtain ⟨L1, m1⟩ := rlx_low (a := nn (w (20 + 7 * q))) (b := nn (w (20 + 7 * q + 1))) (by omega) (by omega) (adj_symm hab) hL
      obtain ⟨L2, m2⟩ := rlx_low (a := nn (w (20 + 7 * q + 1))) (b := nn (w (20 + 7 * q))) (by omega) (by omega) hab L1
      have hm : ∀ v, v < 8 → aw (bth r (nn (w (20 + 7 * q))) (nn (w (20 + 7 * q + 1)))) v ≤ aw r v := fun v hv => Nat.le_trans (m2 v hv) (m1 v hv)
      have r1 := rlx_le (a := nn (w (20 + 7 * q))) (b := nn (w (20 + 7 * q + 1))) hL.1 (by omega) (by omega)
      have r2 := rlx_le (a := nn (w (20 + 7 * q + 1))) (b := nn (w (20 + 7 * q))) L1.1 (by omega) (by omega)
      have o := ih (bth r (nn (w (20 + 7 * q))) (nn (w (20 + 7 * q + 1)))) p (q + 1) hp1 hp7 (by omega) (by omega) L2 (upp_mono hm hU) (fun j hj => by
        rcases Nat.lt_or_ge j q with k | k
        · have tj := hr.2.2.1 j (by omega)
          have tja := tj.1.le
          have tjb := tj.2.1.le
          exact ⟨fun h => Nat.le_trans (hm _ (by omega)) ((hP j k).1 h), fun h => Nat.le_trans (hm _ (by omega)) ((hP j k).2 h)⟩
        · have e : j = q := by omega
          subst e
          refine ⟨fun h => ?_, fun h => ?_⟩
          · have := hU (p - 1) (by omega) _ (by omega) h
            have m := m1 (nn (w (20 + 7 * j))) (by omega)
            show aw (rlx _ _ _) _ ≤ p
            omega
          · have := hU (p - 1) (by omega) _ (by omega) h
            have m := m2 (nn (w (20 + 7 * j))) (by omega)
            show aw (rlx _ _ _) _ ≤ p
            omega)
      refine ⟨o.1, o.2.1, fun z hz => ?_⟩
      rw [o.2.2 z hz]
      show rlx _ _ _ z = _
      rw [rlx_out (by omega) hz, rlx_out (by omega) hz]
theorem meas_init {w : Row} {y : Nat} (hr : Rn w) (hy : y < 8) : ∀ (n : Nat) (r : Row) (p : Nat), p ≤ 8 → 8 - p < n → (∀ v, v < p → r (200 + v) = if v = y then 0 else 8) →
    Low w y (bX7_measures_2 w (nI y) n r p) ∧ Upp w y 8 (bX7_measures_2 w (nI y) n r p) ∧ ∀ z, z < 200 → bX7_measures_2 w (nI y) n r p z = r z := by
  intro n
  induction n with
  | zero => intro r p _ h; omega
  | succ n ih =>
    intro r p hp hn hz
    rw [bX7_measures_2]
    by_cases c : 8 ≤ nI p
    · rw [if_pos c]
      have e : p = 8 := by
        rcases Nat.lt_or_ge p 8 with q | q
        · exact absurd c (nI_ge (b := 8) q (by decide))
        · omega
      subst e
      have ev : ∀ v, v < 8 → aw r v = if v = y then 0 else 8 := by
        intro v hv
        unfold aw
        rw [hz v hv]
        by_cases k : v = y
        · rw [if_pos k, if_pos k]; decide
        · rw [if_neg k, if_neg k]; decide
      have hA : AW r := by
        intro v hv
        rw [hz v hv]
        by_cases k : v = y
        · rw [if_pos k]; exact sm_nI (j := 0) (n := 8) (by omega) (by omega)
        · rw [if_neg k]; exact sm_nI (j := 8) (n := 8) (by omega) (by omega)
      refine meas_loop hr 92 r 1 0 (by omega) (by omega) (by omega) (by omega) ⟨hA, fun v hv hl => ?_⟩ (fun m hm v hv k => ?_) (fun j hj => by omega)
      · rw [ev v hv] at hl ⊢
        by_cases k : v = y
        · rw [if_pos k]; exact k.symm
        · rw [if_neg k] at hl; omega
      · have e0 : m = 0 := by omega
        subst e0
        rw [ev v hv, if_pos (show v = y from Eq.symm k)]
        omega
    · rw [if_neg c]
      have hp2 := lit_lt (n := 8) c (by omega) (by omega)
      by_cases d : nI p = nI y
      · rw [if_pos d]
        have e : p = y := by have := congrArg nn d; rwa [nn_nI (by omega), nn_nI (by omega)] at this
        obtain ⟨a1, a2, a3⟩ := ih (upd r (200 + p) 0) (p + 1) (by omega) (by omega) (fun v hv => by
          by_cases k : v = p
          · subst k; rw [upde, if_pos e]
          · rw [updn (by omega)]; exact hz v (by omega))
        exact ⟨a1, a2, fun z hz' => by rw [a3 z hz', updn (by omega)]⟩
      · rw [if_neg d]
        have e : ¬ p = y := fun q => d (by rw [q])
        obtain ⟨a1, a2, a3⟩ := ih (upd r (200 + p) 8) (p + 1) (by omega) (by omega) (fun v hv => by
          by_cases k : v = p
          · subst k; rw [upde, if_neg e]
          · rw [updn (by omega)]; exact hz v (by omega))
        exact ⟨a1, a2, fun z hz' => by rw [a3 z hz', updn (by omega)]⟩
theorem adj_E {w r : Row} (hr : Rn r) (h : Rel w r) {t v : Nat} : adj w t v ↔ adj r t v := by
  have h5 := hr.1.2.1.le
  have e5 := h.j (j := 5) (by omega)
  unfold adj
  rw [e5]
  constructor
  · rintro ⟨q, a, b⟩
    refine ⟨q, a, ?_⟩
    rw [h.b (j := 20 + 7 * q) (by omega) (by omega), h.b (j := 20 + 7 * q + 1) (by omega) (by omega)] at b
    exact b
  · rintro ⟨q, a, b⟩
    refine ⟨q, a, ?_⟩
    rw [h.b (j := 20 + 7 * q) (by omega) (by omega), h.b (j := 20 + 7 * q + 1) (by omega) (by omega)]
    exact b
theorem rch_E {w r : Row} (hr : Rn r) (h : Rel w r) : ∀ (n u v : Nat), rch w n u v ↔ rch r n u v := by
  intro n
  induction n with
  | zero => intro u v; exact Iff.rfl
  | succ n ih =>
    intro u v
    show (rch w n u v ∨ ∃ t, rch w n u t ∧ adj w t v) ↔ (rch r n u v ∨ ∃ t, rch r n u t ∧ adj r t v)
    rw [ih u v]
    refine or_congr Iff.rfl ⟨?_, ?_⟩
    · rintro ⟨t, a, b⟩; exact ⟨t, (ih u t).mp a, (adj_E hr h).mp b⟩
    · rintro ⟨t, a, b⟩; exact ⟨t, (ih u t).mpr a, (adj_E hr h).mpr b⟩
/-- the class's steps beside what the reference measured -/
theorem steps_E {w r m : Row} {y : Nat} (hw : Rn w) (hr : Rn r) (h : Rel w r) (hy : y < 8) (hL : Low r y m) (hU : Upp r y 8 m) {v : Nat} (hv : v < 8) :
    sX5_stepsBetween w (nI v) (nI y) = if m (200 + v) = 8 then -6 else m (200 + v) := by
  have hs := hL.1 v hv
  have hsl := hs.le
  have e8 : m (200 + v) = 8 ↔ aw m v = 8 := by
    constructor
    · intro q; unfold aw; rw [q]; decide
    · intro q; rw [hs.eq]; show nI (aw m v) = 8; rw [q]; rfl
  have sy : ∀ k, rch w k v y ↔ rch r k y v := fun k => (rch_E hr h k v y).trans ⟨rch_symm k v y, rch_symm k y v⟩
  rcases steps_spec hw hv hy with ⟨d, hd, ed, h1, h2⟩ | ⟨ed, h2⟩
  · have hle := hU d hd v hv ((sy d).mp h1)
    have hge : d ≤ aw m v := by
      rcases Nat.lt_or_ge (aw m v) d with q | q
      · exact absurd ((sy _).mpr (hL.2 v hv (by omega))) (h2 _ q)
      · exact q
    have e : aw m v = d := by omega
    rw [ed, if_neg (fun q => by have := e8.mp q; omega), hs.eq]
    show nI d = nI (aw m v)
    rw [e]
  · have : aw m v = 8 := by
      rcases Nat.lt_or_ge (aw m v) 8 with q | q
      · exact absurd ((sy _).mpr (hL.2 v hv q)) (h2 _ q)
      · have : aw m v ≤ 8 := hsl
        omega
    rw [ed, if_pos (e8.mpr this)]
