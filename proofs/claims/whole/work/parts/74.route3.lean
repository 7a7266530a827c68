/-! the first bridge of a route, and the answer of route -/
def LST (G : Nat → Prop) (n : Nat) (v : Int32) : Prop := (v = -6 ∧ ∀ q, q < n → ¬ G q) ∨ ∃ q, q < n ∧ v = nI q ∧ G q ∧ ∀ j, j < q → ¬ G j
theorem LST_one {G : Nat → Prop} {n : Nat} {v u : Int32} (h : LST G n v) (k : LST G n u) : v = u := by
  rcases h with ⟨h1, h2⟩ | ⟨q, h1, h2, h3, h4⟩ <;> rcases k with ⟨k1, k2⟩ | ⟨p, k1, k2, k3, k4⟩
  · rw [h1, k1]
  · exact absurd k3 (h2 p k1)
  · exact absurd h3 (k2 q h1)
  · rcases Nat.lt_trichotomy p q with e | e | e
    · exact absurd k3 (h4 p e)
    · rw [h2, k2, e]
    · exact absurd h3 (k4 q e)
theorem st8 : ∀ d, d < 8 → ∀ e, e < 9 → ((if nI e = 8 then (-6 : Int32) else nI e) = nI d - 1 ↔ nI e = nI d - 1) := by decide +kernel
def Go (r m : Row) (f q : Nat) : Prop := (r (20 + 7 * q) = nI f ∧ m (200 + nn (r (20 + 7 * q + 1))) = m (200 + f) - 1) ∨ (r (20 + 7 * q + 1) = nI f ∧ m (200 + nn (r (20 + 7 * q))) = m (200 + f) - 1)
theorem fb_ref {r m : Row} {f : Nat} (hr : Rn r) : ∀ (n : Nat) (fd : Int32) (q : Nat), q ≤ nn (r 5) → q < n → LST (fun j => q ≤ j ∧ Go r m f j) (nn (r 5)) fd → LST (Go r m f) (nn (r 5)) (bX7_firstBridge_12 m r f n fd q) := by
  have h5 := hr.1.2.1.le
  intro n
  induction n with
  | zero => intro fd q _ h; omega
  | succ n ih =>
    intro fd q hq hn hL
    rw [bX7_firstBridge_12]
    cases q with
    | zero =>
      rw [if_pos (show nI 0 - 1 < 0 by decide)]
      rcases hL with ⟨a, b⟩ | ⟨j, a, b, c, d⟩
      · exact Or.inl ⟨a, fun j hj g => b j hj ⟨Nat.zero_le _, g⟩⟩
      · exact Or.inr ⟨j, a, b, c.2, fun i hi g => d i hi ⟨Nat.zero_le _, g⟩⟩
    | succ q =>
      have e1 : nI (q + 1) - 1 = nI q := nI_pr (n := q + 1) (by omega)
      rw [if_neg (show ¬ nI (q + 1) - 1 < 0 by
        rw [e1, Int32.lt_iff_toInt_lt, nI_toInt (by omega)]
        have : (0 : Int32).toInt = 0 := by decide
        omega)]
      rw [show q + 1 - 1 = q from rfl]
      have t := hr.2.2.1 q (by omega)
      rw [← t.1.eq, ← t.2.1.eq]
      have yes : Go r m f q → LST (Go r m f) (nn (r 5)) (bX7_firstBridge_12 m r f n (nI q) q) := fun g =>
        ih _ q (by omega) (by omega) (Or.inr ⟨q, by omega, rfl, ⟨Nat.le_refl _, g⟩, fun j hj k => by omega⟩)
      have no : ¬ Go r m f q → LST (Go r m f) (nn (r 5)) (bX7_firstBridge_12 m r f n fd q) := fun g =>
        ih _ q (by omega) (by omega) (by
          rcases hL with ⟨a, b⟩ | ⟨j, a, b, c, d⟩
          · refine Or.inl ⟨a, fun j hj k => ?_⟩
            rcases Nat.lt_or_ge q j with e | e
            · exact b j hj ⟨e, k.2⟩
            · exact g (by rw [show q = j by omega]; exact k.2)
          · refine Or.inr ⟨j, a, b, ⟨by omega, c.2⟩, fun i hi k => ?_⟩
            rcases Nat.lt_or_ge q i with e | e
            · exact d i hi ⟨e, k.2⟩
            · exact g (by rw [show q = i by omega]; exact k.2))
      by_cases a : r (20 + 7 * q) = nI f
      · rw [if_pos a]
        by_cases b : m (200 + nn (r (20 + 7 * q + 1))) = m (200 + f) - 1
        · rw [if_pos b]; exact yes (Or.inl ⟨a, b⟩)
        · rw [if_neg b]
          by_cases c : r (20 + 7 * q + 1) = nI f
          · rw [if_pos c]
            by_cases d : m (200 + nn (r (20 + 7 * q))) = m (200 + f) - 1
            · rw [if_pos d]; exact yes (Or.inr ⟨c, d⟩)
            · rw [if_neg d]; exact no (fun g => g.elim (fun k => b k.2) (fun k => d k.2))
          · rw [if_neg c]; exact no (fun g => g.elim (fun k => b k.2) (fun k => c k.1))
      · rw [if_neg a]
        by_cases c : r (20 + 7 * q + 1) = nI f
        · rw [if_pos c]
          by_cases d : m (200 + nn (r (20 + 7 * q))) = m (200 + f) - 1
          · rw [if_pos d]; exact yes (Or.inr ⟨c, d⟩)
          · rw [if_neg d]; exact no (fun g => g.elim (fun k => a k.1) (fun k => d k.2))
        · rw [if_neg c]; exact no (fun g => g.elim (fun k => a k.1) (fun k => c k.1))
theorem fb_cls {w r m : Row} {y f : Nat} {d : Int32} (hr : Rn r) (h5 : w 5 = r 5) (hG : ∀ q, q < nn (r 5) → (Go r m f q ↔ ¬ sX0_isAt w q (nI f) = 0 ∧ sX5_stepsBetween w (sX0_farFrom w q (nI f)) (nI y) = d - 1)) : ∀ (n p : Nat), p ≤ nn (r 5) → 12 - p < n → (∀ j, j < p → ¬ Go r m f j) → LST (Go r m f) (nn (r 5)) (bX5_firstBridge_3 w (nI f) (nI y) d n p) := by
  have l5 := hr.1.2.1.le
  intro n
  induction n with
  | zero => intro p _ h; omega
  | succ n ih =>
    intro p hp hn hb
    rw [bX5_firstBridge_3, h5]
    have hc := cnt_le (c := r 5) (p := p) hr.1.2.1 (by omega)
    by_cases c : r 5 ≤ nI p
    · rw [if_pos c]
      have := hc.mp c
      exact Or.inl ⟨rfl, fun q hq => hb q (by omega)⟩
    · rw [if_neg c]
      have hp2 : p < nn (r 5) := by
        rcases Nat.lt_or_ge p (nn (r 5)) with k | k
        · exact k
        · exact absurd (hc.mpr k) c
      have g := hG p hp2
      have no : ¬ Go r m f p → LST (Go r m f) (nn (r 5)) (bX5_firstBridge_3 w (nI f) (nI y) d n (p + 1)) := fun k =>
        ih (p + 1) (by omega) (by omega) (fun j hj q => by
          rcases Nat.lt_or_ge j p with e | e
          · exact hb j e q
          · exact k (by rw [show p = j by omega]; exact q))
      by_cases a : sX0_isAt w p (nI f) = 0
      · rw [if_pos a]; exact no (fun k => (g.mp k).1 a)
      · rw [if_neg a]
        by_cases b : sX5_stepsBetween w (sX0_farFrom w p (nI f)) (nI y) = d - 1
        · rw [if_pos b]; exact Or.inr ⟨p, hp2, rfl, g.mpr ⟨a, b⟩, hb⟩
        · rw [if_neg b]; exact no (fun k => b (g.mp k).2)
theorem RG_upR {g : GS} {r : Row} (h : RG g) (hr : ∀ z, z < 200 → r z = g.2.2.2 z) : RG (upR g r) := by
  obtain ⟨h1, h2, h3, h4, h5, h6⟩ := h
  have e0 := hr 0 (by omega)
  have e1 := hr 1 (by omega)
  have e2 := hr 2 (by omega)
  refine ⟨h1, Gi_upR h2 ⟨⟨by rw [e1]; exact h2.2.1.1, by rw [e2]; exact h2.2.1.2⟩, by rw [e0]; exact h2.2.2⟩, h3, ?_, ?_, ?_⟩
  · have h4' : HG g.1 g.2.1 g.2.2.1 g.2.2.2 := h4
    show g.2.1 1 = r 0 ∧ ∀ k, k < nn (r 0) → Rel (g.1 (2 + (nn (g.2.1 0) + 6 - k) % 7)) (g.2.2.1 (nn (r 0) - k))
    rw [e0]; exact h4'
  · exact SG_same (fun _ _ _ => rfl) (fun _ _ _ => rfl) (fun _ _ _ => rfl) (fun k _ hk => hr k (by omega)) h5
  · exact PG_same rfl e1 (fun _ _ => rfl) (fun k hk => hr (100 + k) (by omega)) h2.2.1.1 h6
theorem m1_ne : ∀ d, d < 8 → ¬ nI d = nI d - 1 := by decide +kernel
theorem n8_ne : ∀ d, d < 9 → (nI d = 8 ↔ d = 8) := by decide +kernel
theorem far_iff {w r m : Row} {y f q : Nat} {d : Nat} (hw : Rn w) (hr : Rn r) (h : Rel w r) (hy : y < 8) (hf : f < 8) (hL : Low r y m) (hU : Upp r y 8 m) (hd : m (200 + f) = nI d) (hd8 : d < 8) (hq : q < nn (r 5)) :
    Go r m f q ↔ ¬ sX0_isAt w q (nI f) = 0 ∧ sX5_stepsBetween w (sX0_farFrom w q (nI f)) (nI y) = nI d - 1 := by
  have h5 := hr.1.2.1.le
  have t := hr.2.2.1 q (by omega)
  have tal := t.1.le
  have tbl := t.2.1.le
  have ea : w (20 + 7 * q) = r (20 + 7 * q) := h.b (by omega) (by omega)
  have eb : w (20 + 7 * q + 1) = r (20 + 7 * q + 1) := h.b (by omega) (by omega)
  have st : ∀ v : Int32, sm v 7 → (sX5_stepsBetween w v (nI y) = nI d - 1 ↔ m (200 + nn v) = nI d - 1) := by
    intro v hv
    have hvl := hv.le
    have s := hL.1 (nn v) (by omega)
    have sl := s.le
    have e := steps_E hw hr h hy hL hU (v := nn v) (by omega)
    rw [← hv.eq] at e
    rw [e]
    have k := st8 d hd8 (nn (m (200 + nn v))) (by omega)
    rwa [← s.eq] at k
  unfold Go sX0_isAt sX0_farFrom
  rw [ea, eb, hd]
  by_cases a : r (20 + 7 * q) = nI f
  · rw [if_pos a, if_pos a, st _ t.2.1]
    constructor
    · rintro (⟨_, k⟩ | ⟨k1, k2⟩)
      · exact ⟨by decide, k⟩
      · rw [a, nn_nI (by omega), hd] at k2
        exact absurd k2 (m1_ne d hd8)
    · rintro ⟨_, k⟩; exact Or.inl ⟨a, k⟩
  · rw [if_neg a, if_neg a, st _ t.1]
    by_cases b : r (20 + 7 * q + 1) = nI f
    · rw [if_pos b]
      constructor
      · rintro (⟨k, _⟩ | ⟨_, k⟩)
        · exact absurd k a
        · exact ⟨by decide, k⟩
      · rintro ⟨_, k⟩; exact Or.inr ⟨b, k⟩
    · rw [if_neg b]
      exact ⟨fun k => k.elim (fun k => absurd k.1 a) (fun k => absurd k.1 b), fun k => absurd rfl k.1⟩
theorem below2 {y : Int32} : sX6_isBelow y 2 = 0 ↔ sX7_in y.toInt64 0 1 = 0 := by
  rw [← Decidable.not_iff_not, isB_iff, in_32, show (2 : Int32).toInt = 2 from by decide, show (0 : Int64).toInt = 0 from by decide, show (1 : Int64).toInt = 1 from by decide]
  omega
theorem Rn_of_Rel {w r : Row} (hr : Rn r) (h : Rel w r) : Rn w := by
  have e5 := h.j (j := 5) (by omega)
  refine ⟨⟨by rw [h.j (j := 10) (by omega)]; exact hr.1.1, by rw [e5]; exact hr.1.2.1, by rw [h.j (j := 6) (by omega)]; exact hr.1.2.2⟩, h.2.2.1, fun i hi => ?_, fun i hi h5 => ?_⟩
  · rw [h.b (j := 20 + 7 * i) (by omega) (by omega), h.b (j := 20 + 7 * i + 1) (by omega) (by omega), h.b (j := 20 + 7 * i + 2) (by omega) (by omega)]
    exact hr.2.2.1 i hi
  · rw [h.b (j := 20 + 7 * i + 2) (by omega) (by omega)]
    rw [e5] at h5
    exact hr.2.2.2 i hi h5
theorem route_ok {g : GS} {x y z : Int32} (h : RG g) : sX6_route g x y z = (sX7_route g.2.2.2 (g.2.2.1 0) x y z).1 ∧ RG (upR g (sX7_route g.2.2.2 (g.2.2.1 0) x y z).2) := by
  have hI := h.2.1.1 0 (by omega)
  have hr : Rn (g.2.2.1 0) := hI.1
  have hR := h.2.2.1
  have hw := Rn_of_Rel hr hR
  have triv : RG (upR g g.2.2.2) := RG_upR h (fun _ _ => rfl)
  unfold sX6_route sX7_route
  by_cases a : sX7_isTown x = 0
  · rw [if_pos a, if_pos (town_iff.mpr a)]; exact ⟨rfl, triv⟩
  rw [if_neg a, if_neg (fun q => a (town_iff.mp q))]
  by_cases b : sX7_isTown y = 0
  · rw [if_pos b, if_pos (town_iff.mpr b)]; exact ⟨rfl, triv⟩
  rw [if_neg b, if_neg (fun q => b (town_iff.mp q))]
  by_cases c : sX7_in z.toInt64 0 1 = 0
  · rw [if_pos c, if_pos (below2.mpr c)]; exact ⟨rfl, triv⟩
  rw [if_neg c, if_neg (fun q => c (below2.mp q))]
  obtain ⟨ex, hx⟩ := isTown_of a
  obtain ⟨ey, hy⟩ := isTown_of b
  have M := meas_init hr hy 9 g.2.2.2 0 (by omega) (by omega) (fun v hv => by omega)
  rw [← ey] at M
  change Low _ _ (sX7_measures g.2.2.2 (g.2.2.1 0) y) ∧ Upp _ _ 8 (sX7_measures g.2.2.2 (g.2.2.1 0) y) ∧ ∀ z, z < 200 → sX7_measures g.2.2.2 (g.2.2.1 0) y z = g.2.2.2 z at M
  revert M
  generalize sX7_measures g.2.2.2 (g.2.2.1 0) y = m
  rintro ⟨hL, hU, hO⟩
  have rg : RG (upR g m) := RG_upR h hO
  have sE := steps_E hw hr hR hy hL hU hx
  rw [← ex, ← ey] at sE
  have s := hL.1 (nn x) hx
  have sl := s.le
  have e8 := n8_ne (nn (m (200 + nn x))) (by omega)
  rw [← s.eq] at e8
  by_cases d : m (200 + nn x) = 8
  · rw [if_pos d] at sE
    rw [if_pos d, sE]
    refine ⟨?_, rg⟩
    by_cases k : z = 0
    · rw [if_pos k]
    · rw [if_neg k, if_pos rfl]
  · rw [if_neg d] at sE
    rw [if_neg d, sE]
    by_cases k : z = 0
    · rw [if_pos k, if_pos k]; exact ⟨rfl, rg⟩
    · rw [if_neg k, if_neg k, if_neg (fun q => nn_neg6 nn_b (s.eq ▸ q))]
      refine ⟨?_, rg⟩
      have d8 : nn (m (200 + nn x)) < 8 := by
        have : ¬ nn (m (200 + nn x)) = 8 := fun q => d (e8.mpr q)
        omega
      refine LST_one (G := Go (g.2.2.1 0) m (nn x)) (n := nn (g.2.2.1 0 5)) ?_ ?_
      · have := fb_cls (w := g.1 0) (y := nn y) (d := m (200 + nn x)) hr (hR.j (j := 5) (by omega)) (fun q hq => by
          have := far_iff hw hr hR hy hx hL hU s.eq d8 hq
          rw [← s.eq] at this
          exact this) 13 0 (by omega) (by omega) (fun j hj => by omega)
        rw [← ex, ← ey] at this
        exact this
      · have := fb_ref (m := m) (f := nn x) hr 13 (-6) (nn (g.2.2.1 0 5)) (Nat.le_refl _) (by have := hr.1.2.1.le; omega) (Or.inl ⟨rfl, fun j hj k => by omega⟩)
        exact this
