/-! what holds of each state of the class -/
def WA (w : Row) : Prop := Cn w ∧ ∀ k, k < 8 → sm (w (12 + k)) 7
def WQ (w : Row) : Prop := (qs w).Nodup ∧ (∀ c, c ∈ qs w → c < nn (w 6) ∧ ∃ i, i < nn (w 5) ∧ w (104 + 8 * c + 2) = nI i) ∧ ∀ c, c < 8 → w (104 + 8 * c + 2) = -6 ∨ c ∈ qs w
def WN (w : Row) : Prop := ∀ c, c < 8 → w (104 + 8 * c + 2) = -6 → w (104 + 8 * c + 3) = -6 ∧ w (104 + 8 * c + 4) = 0
def WK (w : Row) : Prop := ∀ i, i < 12 → w (360 + i) = nI (cntL w i (qs w))
def WB (w : Row) : Prop := ∀ i, i < 12 → i < nn (w 5) → (sm (w (20 + 7 * i)) 7 ∧ sm (w (20 + 7 * i + 1)) 7) ∧ (sm (w (20 + 7 * i + 2)) 1000 ∧ 2 ≤ (w (20 + 7 * i + 2)).toInt) ∧ 0 ≤ (w (20 + 7 * i + 3)).toInt ∧ (w (20 + 7 * i + 3)).toInt < (w (20 + 7 * i + 2)).toInt
def WR (w : Row) : Prop := ∀ c i, c < 8 → i < 12 → i < nn (w 5) → 0 ≤ (w (168 + 2 * (12 * c + i))).toInt ∧ (w (168 + 2 * (12 * c + i))).toInt ≤ (w (20 + 7 * i + 3)).toInt ∧ (w (20 + 7 * i + 3)).toInt ≤ (w (168 + 2 * (12 * c + i) + 1)).toInt ∧ (w (168 + 2 * (12 * c + i) + 1)).toInt < (w (20 + 7 * i + 2)).toInt
def WE (w : Row) : Prop := ∀ c i, c < 8 → i < 12 → w (104 + 8 * c + 2) = nI i → (w (104 + 8 * c) = w (20 + 7 * i) ∨ w (104 + 8 * c) = w (20 + 7 * i + 1)) ∧ (0 ≤ (w (104 + 8 * c + 3)).toInt ∧ (w (104 + 8 * c + 3)).toInt < (w (20 + 7 * i + 2)).toInt) ∧ 0 ≤ (w (104 + 8 * c + 4)).toInt ∧ (w (104 + 8 * c + 4)).toInt ≤ (w 4).toInt
def WD (w : Row) : Prop := (qs w).Pairwise (fun a b => (w (104 + 8 * b + 4)).toInt ≤ (w (104 + 8 * a + 4)).toInt)
def WT (w : Row) : Prop := ∀ c, c < 8 → sm (w (104 + 8 * c)) 7
def WM (w : Row) : Prop := (∀ c, c < 8 → 0 ≤ co w c) ∧ (∀ i, i < 12 → 0 ≤ tl w i) ∧ sumN (co w) 8 + sumN (tl w) 12 = (w 8).toInt ∧ (w 8).toInt ≤ 9999 * nn (w 6)
def WX (w : Row) : Prop := sumI (fun c => w (104 + 8 * c + 5)) 8 = sumI (fun i => w (20 + 7 * i + 5)) 12
def WP (w : Row) : Prop := sumI (fun c => w (104 + 8 * c + 6) - w (104 + 8 * c + 7)) 8 = sumI (fun i => w (20 + 7 * i + 4)) 12
def WZ (w : Row) : Prop := (∀ i, i < 12 → nn (w 5) ≤ i → w (20 + 7 * i + 4) = 0 ∧ w (20 + 7 * i + 5) = 0) ∧ ∀ c, c < 8 → nn (w 6) ≤ c → w (104 + 8 * c + 1) = 0 ∧ w (104 + 8 * c + 5) = 0 ∧ w (104 + 8 * c + 6) = 0 ∧ w (104 + 8 * c + 7) = 0
def WS (w : Row) : Prop := sm (w 0) 50 ∧ sm (w 1) 50 ∧ sm (w 2) 50 ∧ sm (w 3) 50 ∧ sm (w 7) 65536 ∧ 0 ≤ (w 4).toInt
def WI (w : Row) : Prop := WA w ∧ WQ w ∧ WN w ∧ WK w ∧ WB w ∧ WR w ∧ WE w ∧ WD w ∧ WT w ∧ WM w ∧ WX w ∧ WP w ∧ WZ w ∧ WS w
section CG0
variable {w w' : Row}
theorem WA.n6 (h : WA w) : nn (w 6) ≤ 8 := h.1.2.2.le
theorem WA.n5 (h : WA w) : nn (w 5) ≤ 12 := h.1.2.1.le
theorem WI.a (h : WI w) : WA w := h.1
theorem WI.cn (h : WI w) : Cn w := h.1.1
theorem WI.q (h : WI w) : WQ w := h.2.1
theorem WI.n (h : WI w) : WN w := h.2.2.1
theorem WI.k (h : WI w) : WK w := h.2.2.2.1
theorem WI.b (h : WI w) : WB w := h.2.2.2.2.1
theorem WI.r (h : WI w) : WR w := h.2.2.2.2.2.1
theorem WI.e (h : WI w) : WE w := h.2.2.2.2.2.2.1
theorem WI.d (h : WI w) : WD w := h.2.2.2.2.2.2.2.1
theorem WI.t (h : WI w) : WT w := h.2.2.2.2.2.2.2.2.1
theorem WI.m (h : WI w) : WM w := h.2.2.2.2.2.2.2.2.2.1
theorem WI.x (h : WI w) : WX w := h.2.2.2.2.2.2.2.2.2.2.1
theorem WI.p (h : WI w) : WP w := h.2.2.2.2.2.2.2.2.2.2.2.1
theorem WI.z (h : WI w) : WZ w := h.2.2.2.2.2.2.2.2.2.2.2.2.1
theorem WI.s (h : WI w) : WS w := h.2.2.2.2.2.2.2.2.2.2.2.2.2
/-! each of them speaks of some places alone -/
theorem WA_c (h : ∀ j, j = 5 ∨ j = 6 ∨ j = 10 ∨ (12 ≤ j ∧ j < 20) → w' j = w j) (x : WA w) : WA w' := by
  refine ⟨?_, fun k hk => by rw [h _ (by omega)]; exact x.2 k hk⟩
  unfold Cn
  rw [h 10 (by omega), h 5 (by omega), h 6 (by omega)]; exact x.1
theorem qs_c (h : ∀ j, j = 10 ∨ (12 ≤ j ∧ j < 20) → w' j = w j) (x : WA w) : qs w' = qs w := qs_congr (h 10 (by omega)) (fun k hk => h _ (by omega)) x.1
theorem q8A (a : WA w) (q : WQ w) {c : Nat} (h : c ∈ qs w) : c < 8 := by
  have := (q.2.1 c h).1
  have := a.n6
  omega
theorem WQ_c (h : ∀ j, j = 5 ∨ j = 6 ∨ j = 10 ∨ (12 ≤ j ∧ j < 20) ∨ (104 ≤ j ∧ j < 168 ∧ (j - 104) % 8 = 2) → w' j = w j) (a : WA w) (x : WQ w) : WQ w' := by
  unfold WQ
  rw [qs_c (fun j hj => h j (by omega)) a, h 5 (by omega), h 6 (by omega)]
  refine ⟨x.1, fun c hc => ?_, fun c hc => ?_⟩
  · have := q8A a x hc
    rw [h _ (by omega)]; exact x.2.1 c hc
  · rw [h _ (by omega)]; exact x.2.2 c hc
theorem WN_c (h : ∀ j, (104 ≤ j ∧ j < 168 ∧ ((j - 104) % 8 = 2 ∨ (j - 104) % 8 = 3 ∨ (j - 104) % 8 = 4)) → w' j = w j) (x : WN w) : WN w' := by
  intro c hc hq
  rw [h _ (by omega)] at hq
  rw [h _ (by omega), h _ (by omega)]; exact x c hc hq
theorem WK_c (h : ∀ j, j = 10 ∨ (12 ≤ j ∧ j < 20) ∨ (104 ≤ j ∧ j < 168 ∧ (j - 104) % 8 = 2) ∨ (360 ≤ j ∧ j < 372) → w' j = w j) (a : WA w) (q : WQ w) (x : WK w) : WK w' := by
  intro i hi
  rw [h _ (by omega), qs_c (fun j hj => h j (by omega)) a, x i hi, cntL_congr (w := w') (w' := w) (qs w) (fun c hc => by have := q8A a q hc; exact h _ (by omega))]
theorem WB_c (h : ∀ j, j = 5 ∨ (20 ≤ j ∧ j < 104 ∧ (j - 20) % 7 < 4) → w' j = w j) (x : WB w) : WB w' := by
  intro i hi hn
  rw [h 5 (by omega)] at hn
  rw [h _ (by omega), h _ (by omega), h _ (by omega), h _ (by omega)]; exact x i hi hn
theorem WR_c (h : ∀ j, j = 5 ∨ (20 ≤ j ∧ j < 104 ∧ ((j - 20) % 7 = 2 ∨ (j - 20) % 7 = 3)) ∨ (168 ≤ j ∧ j < 360) → w' j = w j) (x : WR w) : WR w' := by
  intro c i hc hi hn
  rw [h 5 (by omega)] at hn
  rw [h _ (by omega), h _ (by omega), h _ (by omega), h _ (by omega)]; exact x c i hc hi hn
theorem WE_c (h : ∀ j, j = 4 ∨ (20 ≤ j ∧ j < 104 ∧ (j - 20) % 7 < 3) ∨ (104 ≤ j ∧ j < 168 ∧ ((j - 104) % 8 = 0 ∨ (j - 104) % 8 = 2 ∨ (j - 104) % 8 = 3 ∨ (j - 104) % 8 = 4)) → w' j = w j) (x : WE w) : WE w' := by
  intro c i hc hi hq
  rw [h _ (by omega)] at hq
  rw [h (104 + 8 * c) (by omega), h (20 + 7 * i) (by omega), h (20 + 7 * i + 1) (by omega), h (104 + 8 * c + 3) (by omega), h (20 + 7 * i + 2) (by omega), h (104 + 8 * c + 4) (by omega), h 4 (by omega)]; exact x c i hc hi hq
theorem WD_c (h : ∀ j, j = 10 ∨ (12 ≤ j ∧ j < 20) ∨ (104 ≤ j ∧ j < 168 ∧ (j - 104) % 8 = 4) → w' j = w j) (a : WA w) (q : WQ w) (x : WD w) : WD w' := by
  unfold WD
  rw [qs_c (fun j hj => h j (by omega)) a]
  refine List.Pairwise.imp_of_mem (fun {b c} hb hc hbc => ?_) x
  have := q8A a q hb
  have := q8A a q hc
  rw [h _ (by omega), h _ (by omega)]; exact hbc
theorem WT_c (h : ∀ j, (104 ≤ j ∧ j < 168 ∧ (j - 104) % 8 = 0) → w' j = w j) (x : WT w) : WT w' := by
  intro c hc
  rw [h _ (by omega)]; exact x c hc
theorem WM_c (h : ∀ j, j = 6 ∨ j = 8 ∨ (20 ≤ j ∧ j < 104 ∧ (j - 20) % 7 = 4) ∨ (104 ≤ j ∧ j < 168 ∧ (j - 104) % 8 = 1) → w' j = w j) (x : WM w) : WM w' := by
  have e1 : ∀ c, c < 8 → co w' c = co w c := fun c hc => congrArg Int32.toInt (h _ (by omega))
  have e2 : ∀ i, i < 12 → tl w' i = tl w i := fun i hi => congrArg Int32.toInt (h _ (by omega))
  refine ⟨fun c hc => by rw [e1 c hc]; exact x.1 c hc, fun i hi => by rw [e2 i hi]; exact x.2.1 i hi, ?_, ?_⟩
  · rw [sumN_congr 8 e1, sumN_congr 12 e2, h 8 (by omega)]; exact x.2.2.1
  · rw [h 8 (by omega), h 6 (by omega)]; exact x.2.2.2
theorem WX_c (h : ∀ j, (20 ≤ j ∧ j < 104 ∧ (j - 20) % 7 = 5) ∨ (104 ≤ j ∧ j < 168 ∧ (j - 104) % 8 = 5) → w' j = w j) (x : WX w) : WX w' := by
  unfold WX
  rw [sumI_congr (g := fun c => w (104 + 8 * c + 5)) 8 (fun c hc => h _ (by omega)), sumI_congr (g := fun i => w (20 + 7 * i + 5)) 12 (fun i hi => h _ (by omega))]; exact x
theorem WP_c (h : ∀ j, (20 ≤ j ∧ j < 104 ∧ (j - 20) % 7 = 4) ∨ (104 ≤ j ∧ j < 168 ∧ ((j - 104) % 8 = 6 ∨ (j - 104) % 8 = 7)) → w' j = w j) (x : WP w) : WP w' := by
  unfold WP
  rw [sumI_congr (g := fun c => w (104 + 8 * c + 6) - w (104 + 8 * c + 7)) 8 (fun c hc => by rw [h _ (by omega), h _ (by omega)]), sumI_congr (g := fun i => w (20 + 7 * i + 4)) 12 (fun i hi => h _ (by omega))]; exact x
theorem WZ_c (h : ∀ j, j = 5 ∨ j = 6 ∨ (20 ≤ j ∧ j < 104 ∧ ((j - 20) % 7 = 4 ∨ (j - 20) % 7 = 5)) ∨ (104 ≤ j ∧ j < 168 ∧ ((j - 104) % 8 = 1 ∨ (j - 104) % 8 = 5 ∨ (j - 104) % 8 = 6 ∨ (j - 104) % 8 = 7)) → w' j = w j) (x : WZ w) : WZ w' := by
  refine ⟨fun i hi hn => ?_, fun c hc hn => ?_⟩
  · rw [h 5 (by omega)] at hn
    rw [h _ (by omega), h _ (by omega)]; exact x.1 i hi hn
  · rw [h 6 (by omega)] at hn
    rw [h _ (by omega), h _ (by omega), h _ (by omega), h _ (by omega)]; exact x.2 c hc hn
theorem WS_c (h : ∀ j, j < 5 ∨ j = 7 → w' j = w j) (x : WS w) : WS w' := by
  unfold WS
  rw [h 0 (by omega), h 1 (by omega), h 2 (by omega), h 3 (by omega), h 7 (by omega), h 4 (by omega)]; exact x
end CG0
/-! what a waiting cart stands on -/
section WG0
variable {w : Row}
theorem WI.wait (h : WI w) {c : Nat} (hc : c < 8) (hw : ¬ w (104 + 8 * c + 2) = -6) : c ∈ qs w ∧ c < nn (w 6) ∧ ∃ i, i < nn (w 5) ∧ i < 12 ∧ w (104 + 8 * c + 2) = nI i := by
  have hq := (h.q.2.2 c hc).resolve_left hw
  obtain ⟨h1, i, h2, h3⟩ := h.q.2.1 c hq
  have := h.a.n5
  exact ⟨hq, h1, i, h2, by omega, h3⟩
theorem WI.in_q (h : WI w) {c i : Nat} (hc : c < 8) (hi : i < 12) (hw : w (104 + 8 * c + 2) = nI i) : c ∈ qs w ∧ c < nn (w 6) ∧ i < nn (w 5) := by
  obtain ⟨a, b, k, d, e, f⟩ := h.wait hc (by rw [hw]; exact nn_neg6 (by omega))
  rw [hw, nI_eq (by omega) (by omega)] at f
  subst f
  exact ⟨a, b, d⟩
theorem WI.lt6 (h : WI w) {c : Nat} (hq : c ∈ qs w) : c < nn (w 6) := (h.q.2.1 c hq).1
theorem WI.q8 (h : WI w) {c : Nat} (hq : c ∈ qs w) : c < 8 := q8A h.a h.q hq
theorem WI.sz (h : WI w) {i : Nat} (hi : i < nn (w 5)) : sm (w (20 + 7 * i + 2)) 1000 ∧ 2 ≤ (w (20 + 7 * i + 2)).toInt := (h.b i (by have := h.a.n5; omega) hi).2.1
theorem WI.rid (h : WI w) {i : Nat} (hi : i < nn (w 5)) : sm (w (20 + 7 * i + 3)) 999 := by
  have hb := h.b i (by have := h.a.n5; omega) hi
  have := hb.2.1.1.2
  exact ⟨hb.2.2.1, by have := hb.2.2.2; omega⟩
theorem WI.gu (h : WI w) {c : Nat} (hq : c ∈ qs w) : sm (w (104 + 8 * c + 3)) 999 := by
  obtain ⟨h1, i, h2, h3⟩ := h.q.2.1 c hq
  have := h.a.n5
  have he := h.e c i (h.q8 hq) (by omega) h3
  have := (h.sz h2).1.2
  exact ⟨he.2.1.1, by have := he.2.1.2; omega⟩
theorem WI.comer (h : WI w) {i : Nat} (hi : i < nn (w 5)) : sX5_comerOver w i = cmr w i := comer5 h.cn h.a.2 (fun c hc => h.lt6 hc) (fun c hc => h.gu hc) (h.rid hi)
theorem WI.tied (h : WI w) {i : Nat} : sX5_isTied w i = tie w i := tied5 h.cn h.a.2 (fun c hc => h.lt6 hc)
theorem WI.wa (h : WI w) {i r : Nat} (hr : r < 2 ^ 31) : sX5_waiterAt w i (nI r) = nthL w i (qs w) r := wa5 h.cn h.a.2 (fun c hc => h.lt6 hc) hr
end WG0
