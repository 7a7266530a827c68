/-! an hour -/
theorem cmr_same {w w' : Row} {k : Nat} (hn : ∀ r, nthL w' k (qs w') r = nthL w k (qs w) r) (h0 : w' 0 = w 0) (h3 : w' 3 = w 3) (hr : w' (20 + 7 * k + 3) = w (20 + 7 * k + 3))
    (ha : ∀ a r, nthL w k (qs w) r = some a → w' (104 + 8 * a + 1) = w (104 + 8 * a + 1) ∧ w' (104 + 8 * a + 3) = w (104 + 8 * a + 3) ∧ w' (104 + 8 * a + 4) = w (104 + 8 * a + 4)) : cmr w' k = cmr w k := by
  have F : ∀ a r, nthL w k (qs w) r = some a → far w' a k = far w a k := fun a r h => by
    unfold far sX0_distance
    rw [(ha a r h).2.1, hr]
  have P : ∀ a b r r', nthL w k (qs w) r = some a → nthL w k (qs w) r' = some b → payer w' a b = payer w a b := fun a b r r' h h' => by
    unfold payer
    rw [(ha a r h).1, (ha b r' h').1, h0]
  rw [cmr_F, cmr_F, hn, hn]
  refine cmrF_congr (fun a h => ⟨F a 0 h, ?_⟩) (fun a h => F a 1 h) (fun a b h h' => ⟨P a b 0 1 h h', P b a 1 0 h' h⟩)
  unfold rdyW
  rw [(ha a 0 h).2.2, h3]
section HR
variable {w w' : Row} {c i k : Nat}
theorem cmr_fin (hq : c ∈ qs w) (hw : w (104 + 8 * c + 2) = nI i) (hi : i < 12) (hk : k < 12) (hki : ¬ k = i) (h : WI w) (hf : Fin w w' c i) : cmr w' k = cmr w k := by
  obtain ⟨E, e2, e5, eq⟩ := hf
  have hc8 := h.q8 hq
  have hd : ¬ w (104 + 8 * c + 2) = nI k := fun q => by
    rw [hw, nI_eq (by omega) (by omega)] at q
    exact hki q.symm
  refine cmr_same (fun r => ?_) (E 0 (by omega)) (E 3 (by omega)) (E _ (by omega)) (fun a r ha => ?_)
  · rw [eq, ← nthL_f hd (qs w) r]
    refine nthL_congr _ _ (fun x hx => ?_)
    obtain ⟨hx1, hx2⟩ := List.mem_filter.mp hx
    have hxc : ¬ x = c := by simpa using hx2
    have := h.q8 hx1
    exact E _ (by omega)
  · obtain ⟨a1, a2⟩ := nthL_some _ _ ha
    have ha8 := h.q8 a1
    have hac : ¬ a = c := fun q => by subst q; exact hd a2
    exact ⟨E _ (by omega), E _ (by omega), E _ (by omega)⟩
theorem cmr_tie (hi : i < 12) (hk : k < 12) (h : WI w) (E : ∀ j, ¬ j = 20 + 7 * i + 6 → w' j = w j) : cmr w' k = cmr w k := by
  have eq : qs w' = qs w := qs_c (fun j hj => E j (by omega)) h.a
  refine cmr_same (fun r => ?_) (E 0 (by omega)) (E 3 (by omega)) (E _ (by omega)) (fun a r ha => ?_)
  · rw [eq]
    exact nthL_congr _ _ (fun x hx => by have := h.q8 hx; exact E _ (by omega))
  · have ha8 := h.q8 (nthL_some _ _ ha).1
    exact ⟨E _ (by omega), E _ (by omega), E _ (by omega)⟩
/-- the bridges ahead of p have had their turn -/
def Turn (w v : Row) (p : Nat) : Prop := WI v ∧ (v 5 = w 5 ∧ v 6 = w 6 ∧ v 4 = w 4) ∧ (∀ k, p ≤ k → k < nn (w 5) → cmr v k = cmr w k) ∧
  ∀ c, c < 8 → ((∃ b, b < p ∧ cmr w b = some c) → v (104 + 8 * c + 2) = -6 ∧ v (104 + 8 * c + 5) = w (104 + 8 * c + 5) + 1) ∧ ((¬ ∃ b, b < p ∧ cmr w b = some c) → v (104 + 8 * c + 2) = w (104 + 8 * c + 2) ∧ v (104 + 8 * c + 5) = w (104 + 8 * c + 5))
theorem turn_0 (h : WI w) : Turn w w 0 := ⟨h, ⟨rfl, rfl, rfl⟩, fun _ _ _ => rfl, fun c _ => ⟨fun ⟨b, hb, _⟩ => absurd hb (Nat.not_lt_zero _), fun _ => ⟨rfl, rfl⟩⟩⟩
theorem turn_s {v : Row} {p : Nat} (hp : p < nn (w 5)) (hT : Turn w v p) : Turn w (sX5_letOver v p).2 (p + 1) := by
  obtain ⟨hv, ⟨v5, v6, v4⟩, hcm, hcc⟩ := hT
  have n5 := hv.a.n5
  have n6 := hv.a.n6
  rw [v5] at n5
  have hp' : p < nn (v 5) := by rw [v5]; exact hp
  have hcp := hcm p (Nat.le_refl p) hp
  cases hc : cmr v p with
  | none =>
    obtain ⟨-, h1, E⟩ := letOver_none hp' hc hv
    rw [hc] at hcp
    have hx : ∀ c, (∃ b, b < p + 1 ∧ cmr w b = some c) ↔ ∃ b, b < p ∧ cmr w b = some c := fun c => by
      constructor
      · rintro ⟨b, hb, hbc⟩
        by_cases e : b = p
        · subst e; rw [← hcp] at hbc; cases hbc
        · exact ⟨b, by omega, hbc⟩
      · rintro ⟨b, hb, hbc⟩
        exact ⟨b, by omega, hbc⟩
    refine ⟨h1, ⟨(E 5 (by omega)).trans v5, (E 6 (by omega)).trans v6, (E 4 (by omega)).trans v4⟩, fun k hk hkn => ?_, fun c hc8 => ?_⟩
    · rw [cmr_tie (show p < 12 by omega) (show k < 12 by omega) hv E]; exact hcm k (by omega) hkn
    · rw [E _ (by omega), E _ (by omega)]
      exact ⟨fun q => (hcc c hc8).1 ((hx c).mp q), fun q => (hcc c hc8).2 (fun q2 => q ((hx c).mpr q2))⟩
  | some c0 =>
    obtain ⟨-, h1, hf⟩ := letOver_some hp' hc hv
    obtain ⟨hq, hw⟩ := cmr_mem hc
    have hc8 := hv.q8 hq
    rw [hc] at hcp
    have E := hf.1
    refine ⟨h1, ⟨(E 5 (by omega)).trans v5, (E 6 (by omega)).trans v6, (E 4 (by omega)).trans v4⟩, fun k hk hkn => ?_, fun c hc' => ?_⟩
    · rw [cmr_fin hq hw (show p < 12 by omega) (show k < 12 by omega) (show ¬ k = p by omega) hv hf]; exact hcm k (by omega) hkn
    · have hnb : ¬ ∃ b, b < p ∧ cmr w b = some c0 := fun q => by
        have := ((hcc c0 hc8).1 q).1
        rw [hw] at this
        exact nn_neg6 (by omega) this
      by_cases e : c = c0
      · subst e
        refine ⟨fun _ => ⟨hf.2.1, ?_⟩, fun q => absurd ⟨p, by omega, hcp.symm⟩ q⟩
        rw [hf.2.2.1, ((hcc c hc').2 hnb).2]
      · have hx : (∃ b, b < p + 1 ∧ cmr w b = some c) ↔ ∃ b, b < p ∧ cmr w b = some c := by
          constructor
          · rintro ⟨b, hb, hbc⟩
            by_cases e2 : b = p
            · subst e2; rw [← hcp] at hbc; cases hbc; exact absurd rfl e
            · exact ⟨b, by omega, hbc⟩
          · rintro ⟨b, hb, hbc⟩
            exact ⟨b, by omega, hbc⟩
        rw [E _ (by omega), E _ (by omega)]
        exact ⟨fun q => (hcc c hc').1 (hx.mp q), fun q => (hcc c hc').2 (fun q2 => q (hx.mpr q2))⟩
/-- the end of an hour for the carts ahead of p -/
def hend (v : Row) (p : Nat) : Row := fun j => if 104 ≤ j ∧ j < 168 ∧ (j - 104) % 8 = 4 ∧ (j - 104) / 8 < p ∧ ¬ v (104 + 8 * ((j - 104) / 8) + 2) = -6 then v j + 1 else v j
theorem hend_o {v : Row} {p j : Nat} (h : ¬ (104 ≤ j ∧ j < 168 ∧ (j - 104) % 8 = 4)) : hend v p j = v j := if_neg (fun q => h ⟨q.1, q.2.1, q.2.2.1⟩)
theorem hend_4 {v : Row} {p x : Nat} (hx : x < 8) : hend v p (104 + 8 * x + 4) = if x < p ∧ ¬ v (104 + 8 * x + 2) = -6 then v (104 + 8 * x + 4) + 1 else v (104 + 8 * x + 4) := by
  unfold hend
  have e : (104 + 8 * x + 4 - 104) / 8 = x := by omega
  rw [e]
  by_cases q : x < p ∧ ¬ v (104 + 8 * x + 2) = -6
  · rw [if_pos q, if_pos ⟨by omega, by omega, by omega, q.1, q.2⟩]
  · rw [if_neg q, if_neg (fun z => q z.2.2.2)]
theorem hend_0 {v : Row} : hend v 0 = v := by
  funext j
  unfold hend
  rw [if_neg (by omega)]
theorem hend_s {v : Row} {p : Nat} (hp : p < 8) (hw : ¬ v (104 + 8 * p + 2) = -6) : upd (hend v p) (104 + 8 * p + 4) (hend v p (104 + 8 * p + 4) + 1) = hend v (p + 1) := by
  funext j
  by_cases e : j = 104 + 8 * p + 4
  · subst e
    rw [upde, hend_4 hp, hend_4 hp, if_neg (by omega), if_pos ⟨by omega, hw⟩]
  · rw [updn e]
    unfold hend
    by_cases q : 104 ≤ j ∧ j < 168 ∧ (j - 104) % 8 = 4 ∧ (j - 104) / 8 < p ∧ ¬ v (104 + 8 * ((j - 104) / 8) + 2) = -6
    · rw [if_pos q, if_pos ⟨q.1, q.2.1, q.2.2.1, by omega, q.2.2.2.2⟩]
    · rw [if_neg q, if_neg (fun z => q ⟨z.1, z.2.1, z.2.2.1, by omega, z.2.2.2.2⟩)]
theorem hend_n {v : Row} {p : Nat} (hw : v (104 + 8 * p + 2) = -6) : hend v p = hend v (p + 1) := by
  funext j
  unfold hend
  by_cases q : 104 ≤ j ∧ j < 168 ∧ (j - 104) % 8 = 4 ∧ (j - 104) / 8 < p ∧ ¬ v (104 + 8 * ((j - 104) / 8) + 2) = -6
  · rw [if_pos q, if_pos ⟨q.1, q.2.1, q.2.2.1, by omega, q.2.2.2.2⟩]
  · rw [if_neg q, if_neg (fun z => q ⟨z.1, z.2.1, z.2.2.1, by
      by_cases e : (j - 104) / 8 = p
      · have := z.2.2.2.2
        rw [e] at this
        exact absurd hw this
      · omega, z.2.2.2.2⟩)]
theorem hend_loop {v : Row} {ov : Int32} (h6 : sm (v 6) 8) : ∀ (n p : Nat), p ≤ nn (v 6) → nn (v 6) - p < n → bX5_playHour_33 n (hend v p) ov p = (ov, upd (hend v (nn (v 6))) 4 (v 4 + 1)) := by
  have h8 := h6.le
  intro n
  induction n with
  | zero => intro p _ h; omega
  | succ n ih =>
    intro p hp hn
    rw [bX5_playHour_33]
    have e6 : hend v p 6 = v 6 := hend_o (by omega)
    have hcl := cnt_le (c := v 6) (p := p) h6 (by omega)
    by_cases c : v 6 ≤ nI p
    · have : p = nn (v 6) := by have := hcl.mp c; omega
      rw [e6, if_pos c, hend_o (v := v) (p := p) (j := 4) (by omega), this]
    · rw [e6, if_neg c]
      have hp2 : p < nn (v 6) := by
        rcases Nat.lt_or_ge p (nn (v 6)) with q | q
        · exact q
        · exact absurd (hcl.mpr q) c
      have ew : sX1_isWaiting (hend v p) p = if v (104 + 8 * p + 2) = -6 then 0 else 1 := by
        unfold sX1_isWaiting
        rw [hend_o (by omega)]
      by_cases d : v (104 + 8 * p + 2) = -6
      · rw [ew, if_pos d, if_pos rfl, hend_n d]
        exact ih (p + 1) (by omega) (by omega)
      · rw [ew, if_neg d, if_neg (by decide), hend_s (by omega) d]
        exact ih (p + 1) (by omega) (by omega)
theorem inc_toInt {x : Int32} {n : Nat} (h : x.toInt ≤ n) (hn : n < 2 ^ 31 - 1) : (x + 1).toInt = x.toInt + 1 := by
  have := Int32.le_toInt x
  rw [ta (by rw [show (1 : Int32).toInt = 1 from by decide]; omega), show (1 : Int32).toInt = 1 from by decide]
theorem WI_hend {v : Row} (hh : sm (v 4) 1000000) (h : WI v) : WI (upd (hend v (nn (v 6))) 4 (v 4 + 1)) := by
  have h6 := h.a.n6
  have E : ∀ j, ¬ (j = 4 ∨ (104 ≤ j ∧ j < 168 ∧ (j - 104) % 8 = 4)) → upd (hend v (nn (v 6))) 4 (v 4 + 1) j = v j := fun j hj => by rw [updn (by omega), hend_o (by omega)]
  have e4 : (v 4 + 1).toInt = (v 4).toInt + 1 := inc_toInt hh.2 (by omega)
  have F : ∀ x, x < 8 → ¬ v (104 + 8 * x + 2) = -6 → upd (hend v (nn (v 6))) 4 (v 4 + 1) (104 + 8 * x + 4) = v (104 + 8 * x + 4) + 1 := fun x hx hw => by
    rw [updn (by omega), hend_4 hx, if_pos ⟨(h.wait hx hw).2.1, hw⟩]
  have wb : ∀ x, x < 8 → ¬ v (104 + 8 * x + 2) = -6 → (v (104 + 8 * x + 4) + 1).toInt = (v (104 + 8 * x + 4)).toInt + 1 ∧ 0 ≤ (v (104 + 8 * x + 4)).toInt ∧ (v (104 + 8 * x + 4)).toInt ≤ (v 4).toInt := fun x hx hw => by
    obtain ⟨-, -, k, -, hk, hwk⟩ := h.wait hx hw
    have he := (h.e x k hx hk hwk).2.2
    exact ⟨inc_toInt (n := 1000000) (by have := hh.2; omega) (by omega), he⟩
  refine ⟨WA_c (fun j hj => E j (by omega)) h.a, WQ_c (fun j hj => E j (by omega)) h.a h.q, ?_, WK_c (fun j hj => E j (by omega)) h.a h.q h.k, WB_c (fun j hj => E j (by omega)) h.b, WR_c (fun j hj => E j (by omega)) h.r, ?_, ?_, WT_c (fun j hj => E j (by omega)) h.t, WM_c (fun j hj => E j (by omega)) h.m, WX_c (fun j hj => E j (by omega)) h.x, WP_c (fun j hj => E j (by omega)) h.p, WZ_c (fun j hj => E j (by omega)) h.z, ?_⟩
  · intro x hx hq
    rw [E _ (by omega)] at hq
    rw [E _ (by omega), updn (by omega), hend_4 hx, if_neg (fun q => q.2 hq)]
    exact h.n x hx hq
  · intro x k hx hk hq
    rw [E _ (by omega)] at hq
    have hw : ¬ v (104 + 8 * x + 2) = -6 := by rw [hq]; exact nn_neg6 (by omega)
    have he := h.e x k hx hk hq
    rw [E (104 + 8 * x) (by omega), E (20 + 7 * k) (by omega), E (20 + 7 * k + 1) (by omega), E (104 + 8 * x + 3) (by omega), E (20 + 7 * k + 2) (by omega), F x hx hw, upde, (wb x hx hw).1, e4]
    exact ⟨he.1, he.2.1, by omega, by omega⟩
  · unfold WD
    rw [qs_c (w := v) (fun j hj => E j (by omega)) h.a]
    refine List.Pairwise.imp_of_mem (fun {a b} ha hb hab => ?_) h.d
    have a8 := h.q8 ha
    have b8 := h.q8 hb
    have wa : ¬ v (104 + 8 * a + 2) = -6 := by
      obtain ⟨-, k, hk, hkw⟩ := h.q.2.1 a ha
      have := h.a.n5
      rw [hkw]; exact nn_neg6 (by omega)
    have wb' : ¬ v (104 + 8 * b + 2) = -6 := by
      obtain ⟨-, k, hk, hkw⟩ := h.q.2.1 b hb
      have := h.a.n5
      rw [hkw]; exact nn_neg6 (by omega)
    rw [F a a8 wa, F b b8 wb', (wb a a8 wa).1, (wb b b8 wb').1]
    omega
  · unfold WS
    rw [E 0 (by omega), E 1 (by omega), E 2 (by omega), E 3 (by omega), E 7 (by omega), upde, e4]
    exact ⟨h.s.1, h.s.2.1, h.s.2.2.1, h.s.2.2.2.1, h.s.2.2.2.2.1, by have := hh.1; omega⟩
theorem hour_loop : ∀ (n : Nat) (v : Row) (ov : Int32) (p : Nat), p ≤ nn (w 5) → nn (w 5) - p < n → Turn w v p → ∃ v' : Row, Turn w v' (nn (w 5)) ∧ (bX5_playHour_4 n v ov p).2 = (bX5_playHour_33 9 v' 0 0).2 := by
  intro n
  induction n with
  | zero => intro v ov p _ h; omega
  | succ n ih =>
    intro v ov p hp hn hT
    have h5 := hT.1.cn.2.1
    have e5 := hT.2.1.1
    have n5 := hT.1.a.n5
    rw [e5] at n5
    rw [bX5_playHour_4]
    have hcl := cnt_le (c := v 5) (p := p) h5 (by omega)
    rw [e5] at hcl
    by_cases c : v 5 ≤ nI p
    · rw [if_pos c]
      rw [e5] at c
      have : p = nn (w 5) := by have := hcl.mp c; omega
      subst this
      refine ⟨v, hT, ?_⟩
      have a := hend_loop (v := v) (ov := ov) hT.1.cn.2.2 9 0 (by omega) (by have := hT.1.a.n6; omega)
      have b := hend_loop (v := v) (ov := 0) hT.1.cn.2.2 9 0 (by omega) (by have := hT.1.a.n6; omega)
      rw [hend_0] at a b
      rw [a, b]
    · rw [if_neg c]
      rw [e5] at c
      have hp2 : p < nn (w 5) := by
        rcases Nat.lt_or_ge p (nn (w 5)) with q | q
        · exact q
        · exact absurd (hcl.mpr q) c
      exact ih _ _ (p + 1) (by omega) (by omega) (turn_s hp2 hT)
/-- what an hour brings -/
theorem hour (hh : sm (w 4) 1000000) (h : WI w) : WI (sX5_playHour w).2 ∧ ((sX5_playHour w).2 5 = w 5 ∧ (sX5_playHour w).2 6 = w 6 ∧ (sX5_playHour w).2 4 = w 4 + 1) ∧
    ∀ c, c < 8 → ((∃ b, b < nn (w 5) ∧ cmr w b = some c) → (sX5_playHour w).2 (104 + 8 * c + 2) = -6 ∧ (sX5_playHour w).2 (104 + 8 * c + 5) = w (104 + 8 * c + 5) + 1) ∧ ((¬ ∃ b, b < nn (w 5) ∧ cmr w b = some c) → (sX5_playHour w).2 (104 + 8 * c + 2) = w (104 + 8 * c + 2) ∧ (sX5_playHour w).2 (104 + 8 * c + 5) = w (104 + 8 * c + 5)) := by
  obtain ⟨v, hT, e⟩ := hour_loop (w := w) 13 w 0 0 (by omega) (by have := h.a.n5; omega) (turn_0 h)
  have b := hend_loop (v := v) (ov := 0) hT.1.cn.2.2 9 0 (by omega) (by have := hT.1.a.n6; omega)
  rw [hend_0] at b
  have e2 : (sX5_playHour w).2 = upd (hend v (nn (v 6))) 4 (v 4 + 1) := by
    show (bX5_playHour_4 13 w 0 0).2 = _
    rw [e, b]
  obtain ⟨hv, ⟨v5, v6, v4⟩, -, hcc⟩ := hT
  rw [e2]
  refine ⟨WI_hend (by rw [v4]; exact hh) hv, ⟨?_, ?_, ?_⟩, fun c hc => ?_⟩
  · rw [updn (by omega), hend_o (by omega), v5]
  · rw [updn (by omega), hend_o (by omega), v6]
  · rw [upde, v4]
  · rw [updn (by omega), hend_o (by omega), updn (by omega), hend_o (by omega)]
    exact hcc c hc
end HR
